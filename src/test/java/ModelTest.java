import java.util.ArrayList;
import java.util.HashMap;
import java.util.List;
import java.util.Map;
import java.util.TreeMap;

/**
 * Runs of calls made by a fixed row of numbers, each answer compared with that of a model that tells
 * the document a second time, with none of the program's code.
 */
public final class ModelTest {
    private static final int RUNS = 3000;
    private static final int CALLS = 512;

    // ---- the model

    record View(int number, int primary, Integer backup) {
        int shown() {
            return 64 * number + 8 * primary + (backup == null ? 7 : backup);
        }
    }

    record Op(int client, int number, boolean write, int cell, int value) { }

    record Done(int number, int result) { }

    record State(List<Integer> cells, Map<Integer, Done> latest, int count) {
        State after(Op w) {
            List<Integer> newCells = new ArrayList<>(cells);
            Map<Integer, Done> newLatest = new HashMap<>(latest);
            int result = newCells.set(w.cell, w.value);
            newLatest.put(w.client, new Done(w.number, result));
            return new State(newCells, newLatest, count + 1);
        }

        Done latestOf(int client) {
            return latest.getOrDefault(client, new Done(0, 0));
        }
    }

    /** A letter says itself what it does; its run answers whether it had an effect. */
    interface Effect {
        boolean run();
    }

    record Letter(int kind, int party, Effect effect) { }

    static final class Node {
        View view;
        State state = new State(List.of(0, 0, 0, 0), Map.of(), 0);
        int skew;
        int lease = -1000;
        boolean crashed;
        boolean ready;
        boolean filled;
        Op pending;
    }

    static final class Model {
        final int n;
        final Node[] nodes;
        final List<Letter> post = new ArrayList<>();
        final Map<Integer, Integer> heard = new HashMap<>();
        final Op[] underWay = new Op[3];
        final int[] begun = new int[3];
        final int[] ended = new int[3];
        final int[] results = new int[3];
        View present;
        boolean confirmed;
        int time;

        Model(int wanted) {
            n = wanted < 2 ? 2 : wanted > 5 ? 5 : wanted;
            nodes = new Node[n];
            for (int s = 0; s < n; s++) {
                nodes[s] = new Node();
            }
        }

        boolean server(int s) {
            return 0 <= s && s < n;
        }

        int number(int s) {
            return nodes[s].view == null ? 0 : nodes[s].view.number;
        }

        boolean leads(int s) {
            return nodes[s].view != null && nodes[s].view.primary == s;
        }

        boolean follows(int s) {
            return nodes[s].view != null && nodes[s].view.backup != null && nodes[s].view.backup == s;
        }

        boolean fresh(int s) {
            return heard.containsKey(s) && time < heard.get(s) + 130;
        }

        void mail(int kind, int party, Effect effect) {
            if (post.size() < 32) {
                post.add(new Letter(kind, party, effect));
            }
        }

        int advance(int d) {
            if (d < 0 || d > 1000) {
                return -1;
            }
            return time += d;
        }

        int skew(int s, int o) {
            if (!server(s) || Math.abs((long) o) > 10) {
                return 0;
            }
            nodes[s].skew = o;
            return 1;
        }

        int ping(int s) {
            if (!server(s) || nodes[s].crashed) {
                return 0;
            }
            int bears = leads(s) && !nodes[s].ready ? 0 : number(s);
            int clock = time + nodes[s].skew;
            mail(1, s, () -> pinged(s, bears, clock));
            return 1;
        }

        boolean pinged(int s, int bears, int clock) {
            heard.put(s, time);
            if (present == null) {
                present = new View(1, s, null);
                confirmed = false;
            } else if (present.primary == s && bears == present.number) {
                confirmed = true;
            }
            View told = present;
            mail(2, s, () -> viewed(s, told, clock));
            return true;
        }

        boolean viewed(int s, View told, int clock) {
            if (told.number < number(s)) {
                return false;
            }
            if (told.number > number(s)) {
                enter(s, told);
            }
            if (leads(s) && nodes[s].lease < clock + 100) {
                nodes[s].lease = clock + 100;
            }
            return true;
        }

        void enter(int s, View v) {
            Node me = nodes[s];
            me.view = v;
            me.pending = null;
            me.filled = false;
            me.ready = false;
            if (v.primary == s) {
                if (v.backup == null) {
                    me.ready = true;
                } else {
                    fill(s);
                }
            }
        }

        void fill(int s) {
            View v = nodes[s].view;
            State copy = nodes[s].state;
            int b = v.backup;
            mail(3, b, () -> {
                if (v.number < number(b)) {
                    return false;
                }
                if (v.number > number(b)) {
                    enter(b, v);
                }
                if (!nodes[b].filled) {
                    nodes[b].state = copy;
                    nodes[b].filled = true;
                }
                mail(4, v.primary, () -> {
                    int p = v.primary;
                    if (number(p) != v.number || !leads(p) || nodes[p].ready) {
                        return false;
                    }
                    nodes[p].ready = true;
                    return true;
                });
                return true;
            });
        }

        void pass(int s) {
            int number = nodes[s].view.number;
            int b = nodes[s].view.backup;
            int before = nodes[s].state.count;
            Op w = nodes[s].pending;
            mail(5, b, () -> {
                if (number(b) != number || !follows(b) || !nodes[b].filled) {
                    return false;
                }
                if (nodes[b].state.count == before) {
                    nodes[b].state = nodes[b].state.after(w);
                }
                mail(6, s, () -> passed(s, number, before));
                return true;
            });
        }

        boolean passed(int s, int number, int before) {
            Node me = nodes[s];
            if (number(s) != number || !leads(s) || me.pending == null || me.state.count != before) {
                return false;
            }
            Op w = me.pending;
            me.state = me.state.after(w);
            me.pending = null;
            answer(w.client, w.number, me.state.latestOf(w.client).result);
            return true;
        }

        void answer(int c, int number, int result) {
            mail(8, c, () -> {
                if (underWay[c] == null || underWay[c].number != number) {
                    return false;
                }
                underWay[c] = null;
                ended[c]++;
                results[c] = result;
                return true;
            });
        }

        boolean asked(int s, Op op) {
            Node me = nodes[s];
            if (!leads(s)) {
                return false;
            }
            if (!op.write) {
                if (time + me.skew >= me.lease) {
                    return false;
                }
                answer(op.client, op.number, me.state.cells.get(op.cell));
                return true;
            }
            Done latest = me.state.latestOf(op.client);
            if (op.number < latest.number) {
                return false;
            }
            if (op.number == latest.number) {
                answer(op.client, op.number, latest.result);
                return true;
            }
            if (me.view.backup == null) {
                me.state = me.state.after(op);
                answer(op.client, op.number, me.state.latestOf(op.client).result);
                return true;
            }
            if (!me.ready || me.pending != null) {
                return false;
            }
            me.pending = op;
            pass(s);
            return true;
        }

        int check() {
            if (present == null) {
                return 0;
            }
            if (!confirmed) {
                return present.number;
            }
            Integer spare = null;
            for (int s = n - 1; s >= 0; s--) {
                boolean took = s == present.primary || present.backup != null && present.backup == s;
                if (fresh(s) && !took) {
                    spare = s;
                }
            }
            View next = null;
            if (!fresh(present.primary)) {
                if (present.backup != null && fresh(present.backup)) {
                    next = new View(present.number + 1, present.backup, spare);
                }
            } else if (present.backup == null) {
                if (spare != null) {
                    next = new View(present.number + 1, present.primary, spare);
                }
            } else if (!fresh(present.backup)) {
                next = new View(present.number + 1, present.primary, spare);
            }
            if (next != null) {
                present = next;
                confirmed = false;
            }
            return present.number;
        }

        int push(int s) {
            if (!server(s) || nodes[s].crashed || !leads(s) || nodes[s].view.backup == null) {
                return 0;
            }
            if (!nodes[s].ready) {
                fill(s);
                return 1;
            }
            if (nodes[s].pending != null) {
                pass(s);
                return 1;
            }
            return 0;
        }

        int begin(int c, boolean write, int k, int v) {
            if (c < 0 || c > 2 || k < 0 || k > 3) {
                return -1;
            }
            if (underWay[c] != null) {
                return -2;
            }
            begun[c]++;
            underWay[c] = new Op(c, begun[c], write, k, v);
            return begun[c];
        }

        int send(int c, int s) {
            if (c < 0 || c > 2 || !server(s) || underWay[c] == null) {
                return 0;
            }
            Op op = underWay[c];
            mail(7, s, () -> asked(s, op));
            return 1;
        }

        int deliver(int i) {
            if (i < 0 || i >= post.size()) {
                return -1;
            }
            Letter letter = post.remove(i);
            boolean toServer = letter.kind != 1 && letter.kind != 8;
            boolean idle = toServer && nodes[letter.party].crashed || !letter.effect.run();
            return idle ? letter.kind + 8 : letter.kind;
        }

        int lose(int i) {
            if (i < 0 || i >= post.size()) {
                return 0;
            }
            post.remove(i);
            return 1;
        }

        int crash(int s) {
            if (!server(s) || nodes[s].crashed) {
                return 0;
            }
            nodes[s].crashed = true;
            return 1;
        }

        int letter(int i) {
            return i < 0 || i >= post.size() ? -1 : post.get(i).kind + 16 * post.get(i).party;
        }

        int view(int s) {
            if (s != -1 && !server(s)) {
                return -1;
            }
            View v = s == -1 ? present : nodes[s].view;
            return v == null ? 0 : v.shown();
        }

        int role(int s) {
            if (!server(s)) {
                return -1;
            }
            Node me = nodes[s];
            int role;
            if (me.view == null) {
                role = 0;
            } else if (leads(s)) {
                role = me.pending != null ? 3 : me.ready ? 1 : 2;
            } else if (follows(s)) {
                role = me.filled ? 4 : 5;
            } else {
                role = 6;
            }
            return role + (me.crashed ? 8 : 0);
        }

        int cell(int s, int k) {
            return server(s) && k >= 0 && k <= 3 ? nodes[s].state.cells.get(k) : 0;
        }

        int count(int s) {
            return server(s) ? nodes[s].state.count : -1;
        }

        int finished(int c) {
            return c >= 0 && c <= 2 ? ended[c] : -1;
        }

        int result(int c) {
            return c >= 0 && c <= 2 ? results[c] : 0;
        }
    }

    // ---- the row of numbers that makes the calls

    private static long seed;

    private static int pick(int bound) {
        seed = seed * 6364136223846793005L + 1442695040888963407L;
        return (int) ((seed >>> 33) % bound);
    }

    private static int oneOf(int... choices) {
        return choices[pick(choices.length)];
    }

    // ---- the comparison

    private static final Map<String, Integer> seen = new TreeMap<>();
    private static int wrong = 0;
    private static int calls = 0;
    private static List<String> history;

    private static void same(String call, int got, int want) {
        calls++;
        history.add(call + " answered " + got);
        if (got != want) {
            wrong++;
            if (wrong == 1) {
                history.forEach(System.out::println);
            }
            System.out.println(call + " answered " + got + ", the model answers " + want);
        }
    }

    private static void note(String what) {
        seen.merge(what, 1, Integer::sum);
    }

    private static int bit(boolean b) {
        return b ? 1 : 0;
    }

    private static final int IN_ORDER = 0;
    private static final int ANY_ORDER = 1;
    private static final int NEWEST_FIRST = 2;
    /** How the letters of this run mostly come. */
    private static int order;

    private static int someServer(Model m) {
        if (pick(40) == 0) {
            return oneOf(-1, m.n, Integer.MIN_VALUE, Integer.MAX_VALUE);
        }
        return pick(m.n);
    }

    /** Mostly a server that believes itself primary, so that operations get through. */
    private static int likelyPrimary(Model m) {
        return m.present != null && pick(4) != 0 ? m.present.primary : someServer(m);
    }

    private static int someClient() {
        return pick(40) == 0 ? oneOf(-1, 3, Integer.MIN_VALUE, Integer.MAX_VALUE) : pick(3);
    }

    private static int someCell() {
        return pick(40) == 0 ? oneOf(-1, 4, Integer.MIN_VALUE, Integer.MAX_VALUE) : pick(4);
    }

    private static int somePlace(Model m) {
        if (pick(40) == 0) {
            return oneOf(-1, m.post.size(), 32, Integer.MIN_VALUE, Integer.MAX_VALUE);
        }
        if (m.post.isEmpty() || order == IN_ORDER && pick(3) != 0) {
            return 0;
        }
        return order == NEWEST_FIRST && pick(8) != 0 ? m.post.size() - 1 : pick(m.post.size());
    }

    private static void oneCall(LeasedViewStore x, Model m, int busy) {
        int a = pick(100);
        if (a < busy) {
            int i = somePlace(m);
            int want = m.deliver(i);
            note("deliver " + want);
            same("deliver(" + i + ")", x.deliver(i), want);
        } else if (a < busy + 12) {
            int s = pick(3) == 0 ? likelyPrimary(m) : someServer(m);
            same("ping(" + s + ")", bit(x.ping(s)), m.ping(s));
        } else if (a < busy + 17) {
            checkCall(x, m);
        } else if (a < busy + 22) {
            int d = oneOf(0, 1, 9, 10, 29, 30, 31, 50, 99, 100, 101, 129, 130, pick(60), pick(60));
            d = pick(60) == 0 ? oneOf(-1, 1000, 1001, Integer.MIN_VALUE) : d;
            same("advance(" + d + ")", x.advance(d), m.advance(d));
        } else if (a < busy + 28) {
            int c = someClient();
            boolean w = pick(3) != 0;
            int k = someCell();
            int v = pick(20) == 0 ? oneOf(Integer.MIN_VALUE, Integer.MAX_VALUE) : pick(1000) - 500;
            same("begin(" + c + ", " + w + ", " + k + ", " + v + ")", x.begin(c, w, k, v),
                    m.begin(c, w, k, v));
        } else if (a < busy + 37) {
            int c = someClient();
            int s = likelyPrimary(m);
            same("send(" + c + ", " + s + ")", bit(x.send(c, s)), m.send(c, s));
        } else {
            rareCall(x, m);
        }
    }

    private static void checkCall(LeasedViewStore x, Model m) {
        View before = m.present;
        int want = m.check();
        same("check()", x.check(), want);
        if (before != null && m.present != before) {
            String who = m.present.primary == before.primary ? "keeps primary" : "promotes";
            note("check " + who + ", backup before " + (before.backup != null) + ", after "
                    + (m.present.backup != null));
        }
    }

    private static void rareCall(LeasedViewStore x, Model m) {
        int a = pick(24);
        int s = someServer(m);
        int c = someClient();
        int i = somePlace(m);
        if (a < 4) {
            int p = likelyPrimary(m);
            int want = m.push(p);
            note("push " + want);
            same("push(" + p + ")", bit(x.push(p)), want);
        } else if (a < 7) {
            same("lose(" + i + ")", bit(x.lose(i)), m.lose(i));
        } else if (a < 9) {
            int o = oneOf(-11, -10, -3, 0, 4, 10, 11);
            same("skew(" + s + ", " + o + ")", bit(x.skew(s, o)), m.skew(s, o));
        } else if (a < 10) {
            if (pick(6) == 0) {
                same("crash(" + s + ")", bit(x.crash(s)), m.crash(s));
            }
        } else {
            look(x, m, a, s, c, i);
        }
    }

    private static void look(LeasedViewStore x, Model m, int a, int s, int c, int i) {
        int k = someCell();
        switch (a) {
            case 10, 11 -> same("letters()", x.letters(), m.post.size());
            case 12, 13 -> same("letter(" + i + ")", x.letter(i), m.letter(i));
            case 14, 15 -> same("view(" + s + ")", x.view(s), m.view(s));
            case 16, 17 -> {
                note("role " + m.role(s));
                same("role(" + s + ")", x.role(s), m.role(s));
            }
            case 18, 19 -> same("cell(" + s + ", " + k + ")", x.cell(s, k), m.cell(s, k));
            case 20, 21 -> same("count(" + s + ")", x.count(s), m.count(s));
            case 22 -> same("finished(" + c + ")", x.finished(c), m.finished(c));
            default -> same("result(" + c + ")", x.result(c), m.result(c));
        }
    }

    /** Everything that can be seen; some 90 calls at most. */
    private static void lookAtAll(LeasedViewStore x, Model m) {
        same("letters()", x.letters(), m.post.size());
        for (int i = -1; i <= m.post.size(); i++) {
            same("letter(" + i + ")", x.letter(i), m.letter(i));
        }
        for (int s = -2; s <= m.n; s++) {
            same("view(" + s + ")", x.view(s), m.view(s));
            same("role(" + s + ")", x.role(s), m.role(s));
            same("count(" + s + ")", x.count(s), m.count(s));
        }
        for (int s = 0; s < m.n; s++) {
            for (int k = 0; k < 4; k++) {
                same("cell(" + s + ", " + k + ")", x.cell(s, k), m.cell(s, k));
            }
        }
        for (int c = -1; c <= 3; c++) {
            same("finished(" + c + ")", x.finished(c), m.finished(c));
            same("result(" + c + ")", x.result(c), m.result(c));
        }
    }

    private static void oneRun(int run) {
        seed = run * 7919L + 17;
        history = new ArrayList<>();
        int n = pick(8);
        history.add("new LeasedViewStore(" + n + ")");
        LeasedViewStore x = new LeasedViewStore(n);
        Model m = new Model(n);
        order = oneOf(IN_ORDER, IN_ORDER, ANY_ORDER, NEWEST_FIRST);
        int busy = oneOf(30, 40, 45, 50, 55);
        int most = 0;
        while (history.size() < CALLS - 100) {
            oneCall(x, m, busy);
            most = Math.max(most, m.post.size());
        }
        if (most == 32) {
            note("full post");
        }
        lookAtAll(x, m);
    }

    private static void wasSeen(String what) {
        if (seen.getOrDefault(what, 0) < 20) {
            wrong++;
            System.out.println("the runs hardly reach: " + what);
        }
    }

    public static void main(String[] args) {
        for (int run = 0; run < RUNS && wrong == 0; run++) {
            oneRun(run);
        }
        if (wrong == 0) {
            for (int kind = 1; kind <= 8; kind++) {
                wasSeen("deliver " + kind);
                if (kind != 1) {
                    wasSeen("deliver " + (kind + 8));
                }
            }
            for (int role = 0; role <= 14; role++) {
                if (role != 7) {
                    wasSeen("role " + role);
                }
            }
            wasSeen("deliver -1");
            wasSeen("push 0");
            wasSeen("push 1");
            wasSeen("full post");
            wasSeen("check promotes, backup before true, after true");
            wasSeen("check promotes, backup before true, after false");
            wasSeen("check keeps primary, backup before true, after true");
            wasSeen("check keeps primary, backup before true, after false");
            wasSeen("check keeps primary, backup before false, after true");
        }
        if (args.length > 0) {
            System.out.println(seen);
        }
        System.out.println(calls + " answers compared, " + wrong + " wrong");
        if (wrong != 0) {
            System.exit(1);
        }
    }
}
