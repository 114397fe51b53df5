/** A test for each sentence of "What it is" and "Terms" that names a boundary case, letters apart. */
public final class TermsBoundaryTest extends TestBase {
    public static void main(String[] args) {
        sentence("What it is:", "An object is used for at most 512 calls after it has been made",
                TermsBoundaryTest::lastOf512Calls);
        sentence("What it is:", "what later calls answer is free", TermsBoundaryTest::laterCallsEnd);
        people();
        freshness();
        states();
        post();
        crashedServer();
        end();
    }

    private static void people() {
        sentence("Terms:", "N SERVERS 0 .. N - 1", TermsBoundaryTest::servers);
        sentence("Terms:", "three CLIENTS 0 .. 2", TermsBoundaryTest::clients);
        sentence("Terms:", "The TIME begins at 0.", TermsBoundaryTest::timeBegins);
        sentence("Terms:", "The CLOCK of a server shows the time plus its SKEW, which is from -10 to 10",
                TermsBoundaryTest::clockIsSkewed);
        sentence("Terms:", "which is from -10 to 10, 0 at first", TermsBoundaryTest::skewAtFirst);
        sentence("Terms:", "THE SERVICE has the present view, at first none (its number is 0)",
                TermsBoundaryTest::noViewAtFirst);
        sentence("Terms:", "the view that it is in (at first none, number 0)",
                TermsBoundaryTest::serverWithoutView);
        sentence("Terms:", "A CLIENT has at most one operation under way",
                TermsBoundaryTest::oneUnderWay);
    }

    private static void freshness() {
        sentence("Terms:", "A server is FRESH if a ping of it has arrived",
                TermsBoundaryTest::freshOnlyByArrival);
        String words = "the time is less than 130 after the latest of them";
        sentence("Terms:", words, TermsBoundaryTest::freshNewcomer);
        sentence("Terms:", words, TermsBoundaryTest::freshBackup);
        sentence("Terms:", words, TermsBoundaryTest::freshPrimary);
        sentence("Terms:", words, TermsBoundaryTest::freshThoughCrashed);
        sentence("Terms:", words, TermsBoundaryTest::freshSinceTheLatest);
        sentence("Terms:", words, TermsBoundaryTest::freshSinceArrival);
    }

    private static void states() {
        sentence("Terms:", "four cells 0 .. 3, each an int, at first 0", TermsBoundaryTest::cells);
        sentence("Terms:", "for each client the number of its latest write that was done, at first 0",
                TermsBoundaryTest::latestWriteAtFirst);
        sentence("Terms:", "the COUNT of writes done, at first 0", TermsBoundaryTest::countAtFirst);
        sentence("Terms:", "its result is what cell k holds, the cell holds v",
                TermsBoundaryTest::writeOfTheSameValue);
    }

    private static void post() {
        sentence("Terms:", "LETTERS wait, in the order in which they were sent, until they are delivered"
                + " or lost", TermsBoundaryTest::orderOfLetters);
        sentence("Terms:", "a delivered one waits no more when something is sent because of it",
                TermsBoundaryTest::deliveredWhenFull);
        sentence("Terms:", "that comes last", TermsBoundaryTest::sentComesLast);
        sentence("Terms:", "those behind a delivered or lost one have a place less",
                TermsBoundaryTest::placesMoveUp);
        String words = "When 32 wait, what is sent is lost at once (the call that sends it answers as"
                + " ever).";
        sentence("Terms:", words, TermsBoundaryTest::fullForPing);
        sentence("Terms:", words, TermsBoundaryTest::fullForSend);
        sentence("Terms:", words, TermsBoundaryTest::fullForFill);
        sentence("Terms:", words, TermsBoundaryTest::fullForPass);
        sentence("Terms:", words, TermsBoundaryTest::roomAgain);
        sentence("Terms:", words, TermsBoundaryTest::lostLeavesNoTrace);
    }

    private static void crashedServer() {
        String words = "A letter that reaches a crashed server is IDLE (has no effect)";
        sentence("Terms:", words, TermsBoundaryTest::viewToCrashed);
        sentence("Terms:", words, TermsBoundaryTest::fillToCrashed);
        sentence("Terms:", words, TermsBoundaryTest::filledToCrashed);
        sentence("Terms:", words, TermsBoundaryTest::passToCrashed);
        sentence("Terms:", words, TermsBoundaryTest::passedToCrashed);
        sentence("Terms:", words, TermsBoundaryTest::askToCrashed);
        sentence("Terms:", words, TermsBoundaryTest::lettersOfCrashed);
    }

    // ---- What it is

    private static void lastOf512Calls() {
        LeasedViewStore x = new LeasedViewStore(2);
        for (int call = 1; call <= 512; call++) {
            due("advance(1000) as call " + call, x.advance(1000), 1000 * call);
        }

        LeasedViewStore y = new LeasedViewStore(2);
        y.ping(0);
        y.deliver(0);
        y.deliver(0);
        for (int i = 1; i <= 127; i++) {
            due("begin", y.begin(0, true, 1, 7 * i), i);
            y.send(0, 0);
            due("ASK", y.deliver(0), 7);
            due("ANSWER", y.deliver(0), 8);
        }
        due("result as call 512", y.result(0), 7 * 126);

        // 256 calls and 256 more: the post runs over and is emptied to the last letter.
        LeasedViewStore z = new LeasedViewStore(2);
        for (int i = 0; i < 256; i++) {
            due("ping", z.ping(1), true);
        }
        for (int i = 0; i < 32; i++) {
            due("PING", z.deliver(0), 1);
        }
        for (int i = 0; i < 32; i++) {
            due("VIEW", z.deliver(0), 2);
        }
        for (int i = 64; i < 255; i++) {
            due("none waits", z.deliver(0), -1);
        }
        due("view as call 512", z.view(1), shown(1, 1, NOBODY));
    }

    /** Free, but LANGUAGE.md lets no call fail, not even when the time has wrapped around. */
    private static void laterCallsEnd() {
        LeasedViewStore x = pending(5, 0, 1, 5);
        int[] inputs = {MIN, -1, 0, 1, 2, 3, 4, 5, 31, 32, MAX};
        for (int step = 0; step < 5_000_000; step++) {
            x.advance(1000);
            if (step % 500_000 == 0) {
                for (int a : inputs) {
                    everyCall(x, a);
                }
            }
        }
        due("calls that ended", true, true);
    }

    private static void everyCall(LeasedViewStore x, int a) {
        x.skew(a, 5);
        x.ping(a);
        x.check();
        x.push(a);
        x.begin(a, true, a, a);
        x.send(a, a);
        x.letter(a);
        x.deliver(a);
        x.lose(a);
        x.view(a);
        x.role(a);
        x.cell(a, a);
        x.count(a);
        x.finished(a);
        x.result(a);
        if (a == 4) {
            x.crash(a);
        }
    }

    // ---- Terms: who and when

    private static void servers() {
        for (int n = 2; n <= 5; n++) {
            LeasedViewStore x = new LeasedViewStore(n);
            due("server -1 of " + n, x.count(-1), -1);
            due("server 0 of " + n, x.count(0), 0);
            due("server N - 1 of " + n, x.count(n - 1), 0);
            due("server N of " + n, x.count(n), -1);
        }
    }

    private static void clients() {
        LeasedViewStore x = new LeasedViewStore(5);
        int[][] clients = {{-1, -1}, {0, 0}, {1, 0}, {2, 0}, {3, -1}, {4, -1}};
        for (int[] client : clients) {
            due("client " + client[0], x.finished(client[0]), client[1]);
        }
    }

    private static void timeBegins() {
        due("advance(0)", new LeasedViewStore(2).advance(0), 0);
        due("advance(1)", new LeasedViewStore(2).advance(1), 1);
    }

    /** Each skew, once when the ping is sent (which moves the lease) and once when the read comes. */
    private static void clockIsSkewed() {
        for (int o = -10; o <= 10; o++) {
            LeasedViewStore x = new LeasedViewStore(2);
            x.advance(50);
            x.skew(0, o);
            pingThrough(x, 0);
            x.skew(0, 0);
            x.advance(99 + o);
            due("read before the lease of a ping with skew " + o, readAt(x, 0), 7);
            x.advance(1);
            due("read at the lease of a ping with skew " + o, readAt(x, 0), 15);

            LeasedViewStore y = new LeasedViewStore(2);
            pingThrough(y, 0);
            y.skew(0, o);
            y.advance(99 - o);
            due("read with skew " + o + " at clock 99", readAt(y, 0), 7);
            y.advance(1);
            due("read with skew " + o + " at clock 100", readAt(y, 0), 15);
        }
    }

    private static void skewAtFirst() {
        for (int s = 0; s < 3; s++) {
            LeasedViewStore x = new LeasedViewStore(3);
            pingThrough(x, s);
            x.advance(99);
            due("read at 99", readAt(x, s), 7);
            x.advance(1);
            due("read at 100", readAt(x, s), 15);
            // Setting it to 0 changes nothing.
            LeasedViewStore y = new LeasedViewStore(3);
            pingThrough(y, s);
            y.skew(s, 0);
            y.advance(99);
            due("read at 99, skew 0", readAt(y, s), 7);
            y.advance(1);
            due("read at 100, skew 0", readAt(y, s), 15);
        }
        // The skew of another server does not matter.
        LeasedViewStore z = new LeasedViewStore(2);
        z.skew(1, 10);
        pingThrough(z, 0);
        z.skew(1, -10);
        z.advance(99);
        due("read at 99", readAt(z, 0), 7);
        z.advance(1);
        due("read at 100", readAt(z, 0), 15);
    }

    private static void noViewAtFirst() {
        LeasedViewStore x = new LeasedViewStore(2);
        due("check", x.check(), 0);
        due("view", x.view(-1), 0);
        x.advance(1000);
        due("check later", x.check(), 0);
        x.ping(1);
        due("check with a ping under way", x.check(), 0);
        x.deliver(0);
        due("check with a view", x.check(), 1);
    }

    /** Such a server is no primary: it has nothing to push, answers no ASK, and pings with 0. */
    private static void serverWithoutView() {
        LeasedViewStore x = new LeasedViewStore(2);
        due("view", x.view(0), 0);
        due("role", x.role(0), 0);
        due("push", x.push(0), false);
        due("read", readAt(x, 0), 15);
        x.begin(0, true, 0, 1);
        x.send(0, 0);
        due("write", x.deliver(0), 15);
        due("count", x.count(0), 0);
    }

    private static void oneUnderWay() {
        LeasedViewStore x = alone(2);
        due("none under way", x.begin(0, true, 0, 1), 1);
        due("one under way", x.begin(0, true, 0, 1), -2);
        due("of another client", x.begin(1, true, 0, 1), 1);
        x.send(0, 0);
        due("one asked", x.begin(0, true, 0, 1), -2);
        x.deliver(0);
        due("one done, not answered", x.begin(0, true, 0, 1), -2);
        x.deliver(0);
        due("one finished", x.begin(0, true, 0, 1), 2);
    }

    // ---- Terms: fresh

    private static void freshOnlyByArrival() {
        LeasedViewStore x = alone(3);
        due("no ping ever, at time 0", x.check(), 1);
        x.ping(1);
        due("the ping is on its way", x.check(), 1);
        x.lose(0);
        due("the ping is lost", x.check(), 1);
        x.ping(1);
        x.deliver(0);
        due("the ping arrived at time 0, its answer not", x.check(), 2);
        due("view", x.view(-1), shown(2, 0, 1));

        LeasedViewStore y = alone(3);
        y.advance(129);
        due("no ping ever, at time 129", y.check(), 1);
    }

    /** Whether a newcomer, heard so long ago, is taken as backup. */
    private static void freshNewcomer() {
        for (int base = 0; base <= 1000; base += 500) {
            for (int ago = 128; ago <= 131; ago++) {
                LeasedViewStore x = alone(3);
                x.advance(base);
                pingHeard(x, 2);
                x.advance(ago);
                pingHeard(x, 0);
                boolean fresh = ago < 130;
                due("check, newcomer heard " + ago + " ago", x.check(), fresh ? 2 : 1);
                due("view", x.view(-1), fresh ? shown(2, 0, 2) : shown(1, 0, NOBODY));
            }
        }
    }

    private static void freshBackup() {
        for (int ago = 128; ago <= 131; ago++) {
            LeasedViewStore x = running(3);
            x.advance(ago);
            pingHeard(x, 0);
            pingHeard(x, 2);
            boolean fresh = ago < 130;
            due("check, backup heard " + ago + " ago", x.check(), fresh ? 2 : 3);
            due("view", x.view(-1), fresh ? shown(2, 0, 1) : shown(3, 0, 2));

            // The same backup when the primary is stale: only a fresh one takes its place.
            LeasedViewStore y = running(3);
            y.advance(20);
            pingHeard(y, 1);
            y.advance(ago);
            due("check, both silent, backup " + ago, y.check(), fresh ? 3 : 2);
            due("view", y.view(-1), fresh ? shown(3, 1, NOBODY) : shown(2, 0, 1));
        }
    }

    /** The service knows of pings alone. */
    private static void freshThoughCrashed() {
        for (int ago = 129; ago <= 130; ago++) {
            LeasedViewStore x = running(3);
            x.crash(1);
            x.advance(ago);
            pingHeard(x, 0);
            due("check, crashed backup heard " + ago + " ago", x.check(), ago < 130 ? 2 : 3);
            LeasedViewStore y = running(3);
            y.crash(0);
            y.advance(ago);
            pingHeard(y, 1);
            due("check, crashed primary heard " + ago + " ago", y.check(), ago < 130 ? 2 : 3);
        }
    }

    private static void freshPrimary() {
        for (int ago = 128; ago <= 131; ago++) {
            LeasedViewStore x = running(3);
            x.advance(ago);
            pingHeard(x, 1);
            boolean fresh = ago < 130;
            due("check, primary heard " + ago + " ago", x.check(), fresh ? 2 : 3);
            due("view", x.view(-1), fresh ? shown(2, 0, 1) : shown(3, 1, NOBODY));

            // A primary alone: it takes a backup only while it is fresh.
            LeasedViewStore y = alone(3);
            y.advance(ago);
            pingHeard(y, 1);
            due("check, primary alone, heard " + ago + " ago", y.check(), fresh ? 2 : 1);
        }
    }

    private static void freshSinceTheLatest() {
        for (int ago = 129; ago <= 130; ago++) {
            LeasedViewStore x = running(3);
            x.advance(100);
            pingHeard(x, 1);
            x.advance(60);
            pingHeard(x, 1);
            x.advance(ago);
            pingHeard(x, 0);
            due("check, the latest of several " + ago + " ago", x.check(), ago < 130 ? 2 : 3);
        }
        // A ping that was sent before another and comes after it is the latest that arrived.
        LeasedViewStore y = running(3);
        y.ping(1);
        y.ping(1);
        y.advance(10);
        y.deliver(1);
        y.advance(90);
        y.deliver(0);
        y.lose(0);
        y.lose(0);
        y.advance(129);
        pingHeard(y, 0);
        due("check, overtaken ping 129 ago", y.check(), 2);
        y.advance(1);
        due("check, overtaken ping 130 ago", y.check(), 3);
    }

    private static void freshSinceArrival() {
        LeasedViewStore x = running(3);
        x.ping(1);
        x.advance(500);
        x.deliver(0);
        x.lose(0);
        x.advance(129);
        pingHeard(x, 0);
        due("check, sent 629 and arrived 129 ago", x.check(), 2);
        x.advance(1);
        due("check, sent 630 and arrived 130 ago", x.check(), 3);
    }

    // ---- Terms: states

    private static void cells() {
        int[] values = {MIN, -1, 1, MAX};
        for (int k = 0; k <= 3; k++) {
            for (int v : values) {
                LeasedViewStore x = running(3);
                due("at first", x.cell(0, k), 0);
                write(x, 0, 0, k, v);
                for (int other = 0; other <= 3; other++) {
                    due("cell " + other + " of the primary", x.cell(0, other), other == k ? v : 0);
                    due("cell " + other + " of the backup", x.cell(1, other), other == k ? v : 0);
                }
                write(x, 0, 0, k, 0);
                due("result", x.result(0), v);
                due("0 again", x.cell(0, k), 0);
            }
        }
    }

    /** Number 1 is greater than 0, whatever another client's latest write is. */
    private static void latestWriteAtFirst() {
        LeasedViewStore x = alone(2);
        for (int i = 0; i < 3; i++) {
            write(x, 0, 0, 0, 10 + i);
        }
        x.begin(1, true, 0, 20);
        x.send(1, 0);
        due("first write of a client", x.deliver(0), 7);
        due("is done", x.cell(0, 0), 20);
        due("and answered", x.deliver(0), 8);
        due("result", x.result(1), 12);
        x.begin(2, true, 1, 30);
        x.send(2, 0);
        due("first write of the last client", x.deliver(0), 7);
        due("is done", x.cell(0, 1), 30);
        due("count", x.count(0), 5);
    }

    private static void countAtFirst() {
        LeasedViewStore x = running(3);
        for (int i = 0; i <= 5; i++) {
            due("count of the primary", x.count(0), i);
            due("count of the backup", x.count(1), i);
            due("count of the other", x.count(2), 0);
            write(x, i % 3, 0, i % 4, i);
        }
    }

    private static void writeOfTheSameValue() {
        LeasedViewStore x = alone(2);
        write(x, 0, 0, 2, 9);
        due("first result", x.result(0), 0);
        write(x, 1, 0, 2, 9);
        due("result when the value is the same", x.result(1), 9);
        due("cell", x.cell(0, 2), 9);
        due("count", x.count(0), 2);
        write(x, 2, 0, 2, 0);
        due("result when 0 is written", x.result(2), 9);
        due("cell", x.cell(0, 2), 0);
        due("count", x.count(0), 3);
    }

    // ---- Terms: the post

    private static final int PING = 1;

    private static void waitOnly(LeasedViewStore x, String when, int... kinds) {
        due("letters " + when, x.letters(), kinds.length);
        for (int i = 0; i < kinds.length; i++) {
            due("place " + i + " " + when, x.letter(i), kinds[i]);
        }
        due("place " + kinds.length + " " + when, x.letter(kinds.length), -1);
    }

    /** Five pings of servers 0 .. 4 in a row. */
    private static LeasedViewStore fivePings() {
        LeasedViewStore x = new LeasedViewStore(5);
        for (int s = 0; s < 5; s++) {
            x.ping(s);
        }
        return x;
    }

    private static void orderOfLetters() {
        LeasedViewStore x = new LeasedViewStore(5);
        int[] order = {3, 0, 4, 0, 1, 2};
        for (int s : order) {
            x.ping(s);
        }
        x.begin(0, false, 0, 0);
        x.send(0, 2);
        x.advance(1000);
        waitOnly(x, "as sent", 1 + 48, 1, 1 + 64, 1, 1 + 16, 1 + 32, 7 + 32);
    }

    /** The place of the delivered letter is free for what it sends: nothing is lost at 32. */
    private static void deliveredWhenFull() {
        LeasedViewStore x = new LeasedViewStore(2);
        fillPost(x, 1, 32);
        sendsWhenFull("PING", x, 0, 1, 2 + 16);

        x = paired(3);
        x.ping(0);
        x.deliver(0);
        fillPost(x, 2, 32);
        sendsWhenFull("VIEW that is entered", x, 0, 2, 3 + 16);

        x = filling(3);
        fillPost(x, 2, 32);
        sendsWhenFull("FILL", x, 0, 3, 4);

        x = running(3);
        x.begin(1, true, 0, 5);
        x.send(1, 0);
        fillPost(x, 2, 32);
        sendsWhenFull("ASK of a write with a backup", x, 0, 7, 5 + 16);

        x = pending(3, 1, 0, 5);
        fillPost(x, 2, 32);
        sendsWhenFull("PASS", x, 0, 5, 6);
        sendsWhenFull("PASSED", x, 31, 6, 8 + 16);
        due("the ANSWER that was last of 32", x.deliver(31), 8);
        due("finished", x.finished(1), 1);

        x = alone(3);
        x.begin(2, false, 0, 0);
        x.send(2, 0);
        fillPost(x, 2, 32);
        sendsWhenFull("ASK of a read", x, 0, 7, 8 + 32);

        x = alone(3);
        x.begin(2, true, 0, 5);
        x.send(2, 0);
        x.send(2, 0);
        fillPost(x, 2, 32);
        sendsWhenFull("ASK of a write without a backup", x, 0, 7, 8 + 32);
        sendsWhenFull("ASK of a write that was done", x, 0, 7, 8 + 32);
    }

    private static void sendsWhenFull(String what, LeasedViewStore x, int place, int kind, int sent) {
        due(what + ": letters before", x.letters(), 32);
        due(what, x.deliver(place), kind);
        due(what + ": letters after", x.letters(), 32);
        due(what + ": the last letter", x.letter(31), sent);
    }

    private static void sentComesLast() {
        for (int i = 0; i < 5; i++) {
            LeasedViewStore x = fivePings();
            x.deliver(i);
            due("letters", x.letters(), 5);
            due("last after place " + i, x.letter(4), 2 + 16 * i);
            due("none after it", x.letter(5), -1);
        }
        LeasedViewStore y = new LeasedViewStore(2);
        y.ping(1);
        y.deliver(0);
        waitOnly(y, "after the only one", 2 + 16);
    }

    private static void placesMoveUp() {
        for (int i = 0; i < 5; i++) {
            LeasedViewStore x = fivePings();
            LeasedViewStore y = fivePings();
            x.deliver(i);
            y.lose(i);
            due("letters after a delivery", x.letters(), 5);
            due("letters after a loss", y.letters(), 4);
            for (int j = 0; j < 4; j++) {
                int s = j < i ? j : j + 1;
                due("place " + j + " after delivery of " + i, x.letter(j), PING + 16 * s);
                due("place " + j + " after loss of " + i, y.letter(j), PING + 16 * s);
            }
        }
        // The last of 32, and the first of 32.
        LeasedViewStore z = new LeasedViewStore(3);
        z.ping(0);
        fillPost(z, 1, 31);
        z.ping(2);
        due("place 31", z.lose(31), true);
        due("place 30 stays", z.letter(30), PING + 16);
        due("place 31 is free", z.letter(31), -1);
        z.ping(2);
        due("place 0", z.lose(0), true);
        due("place 0 is the next", z.letter(0), PING + 16);
        due("place 30 was 31", z.letter(30), PING + 32);
        due("letters", z.letters(), 31);
    }

    private static void fullForPing() {
        LeasedViewStore x = new LeasedViewStore(3);
        fillPost(x, 0, 31);
        due("letters", x.letters(), 31);
        due("ping when 31 wait", x.ping(1), true);
        due("letters", x.letters(), 32);
        due("place 31", x.letter(31), PING + 16);
        due("ping when 32 wait", x.ping(2), true);
        due("letters", x.letters(), 32);
        due("place 31 stays", x.letter(31), PING + 16);
        due("no place 32", x.letter(32), -1);
        due("and again", x.ping(2), true);
        due("refused as ever", x.ping(3), false);
        x.crash(2);
        due("crashed as ever", x.ping(2), false);
        due("letters", x.letters(), 32);
    }

    private static void fullForSend() {
        LeasedViewStore x = alone(3);
        x.begin(1, true, 0, 5);
        fillPost(x, 2, 31);
        due("send when 31 wait", x.send(1, 0), true);
        due("place 31", x.letter(31), 7);
        due("send when 32 wait", x.send(1, 1), true);
        due("letters", x.letters(), 32);
        due("place 31 stays", x.letter(31), 7);
        due("refused as ever", x.send(1, 3), false);
        due("nothing under way as ever", x.send(0, 0), false);
    }

    private static void fullForFill() {
        LeasedViewStore x = filling(3);
        fillPost(x, 2, 31);
        due("push when 31 wait", x.push(0), true);
        due("place 31", x.letter(31), 3 + 16);
        due("push when 32 wait", x.push(0), true);
        due("letters", x.letters(), 32);
        due("not ready still", x.role(0), 2);
        x.lose(31);
        x.lose(0);
        due("the lost FILL does not come", x.letter(29), PING + 32);
        due("letters", x.letters(), 30);
        due("refused as ever", x.push(1), false);
    }

    private static void fullForPass() {
        LeasedViewStore x = pending(3, 0, 1, 6);
        fillPost(x, 2, 31);
        due("push when 31 wait", x.push(0), true);
        due("place 31", x.letter(31), 5 + 16);
        due("push when 32 wait", x.push(0), true);
        due("letters", x.letters(), 32);
        due("pending still", x.role(0), 3);
        x.lose(31);
        due("the lost PASS does not come", x.letter(30), PING + 32);
        due("the first PASS works", x.deliver(0), 5);
        due("cell", x.cell(1, 1), 6);
        due("refused as ever", x.push(1), false);
    }

    private static void roomAgain() {
        LeasedViewStore x = new LeasedViewStore(3);
        fillPost(x, 0, 32);
        x.lose(7);
        due("ping after a loss", x.ping(1), true);
        due("letters", x.letters(), 32);
        due("place 31", x.letter(31), PING + 16);
        x.deliver(3);
        due("the VIEW took the room", x.letter(31), 2);
        due("ping when it did", x.ping(2), true);
        due("letters", x.letters(), 32);
        due("place 31 stays", x.letter(31), 2);
        due("VIEW", x.deliver(31), 2);
        due("letters", x.letters(), 31);
        due("ping after a delivery that sends nothing", x.ping(2), true);
        due("place 31", x.letter(31), PING + 32);
        due("letters", x.letters(), 32);
    }

    /** What was lost at once is not heard of later, and what waits bears what it bore. */
    private static void lostLeavesNoTrace() {
        LeasedViewStore x = alone(3);
        x.begin(0, true, 0, 5);
        x.begin(1, true, 1, 6);
        for (int i = 0; i < 32; i++) {
            x.send(0, 0);
        }
        due("lost ASK", x.send(1, 0), true);
        due("lost ping", x.ping(1), true);
        due("letters", x.letters(), 32);
        settle(x);
        due("the first write is done once", x.count(0), 1);
        due("cell 0", x.cell(0, 0), 5);
        due("cell 1", x.cell(0, 1), 0);
        due("the other client waits", x.finished(1), 0);
        due("the lost ping has not arrived", x.check(), 1);
        due("server 1 is told nothing", x.view(1), 0);

        // Each of 32 letters bears its own: pings with growing clocks, then the leases one by one.
        LeasedViewStore y = alone(2);
        for (int i = 0; i < 32; i++) {
            y.advance(1);
            y.ping(0);
        }
        y.advance(1);
        y.ping(0);
        for (int i = 0; i < 32; i++) {
            due("PING", y.deliver(0), 1);
        }
        for (int i = 0; i < 32; i++) {
            due("VIEW", y.deliver(0), 2);
        }
        y.advance(98);
        due("read at 131 with the lease of the ping at 32", readAt(y, 0), 7);
        y.advance(1);
        due("read at 132", readAt(y, 0), 15);
    }

    // ---- Terms: a crashed server

    private static void viewToCrashed() {
        for (int crashed = 0; crashed <= 1; crashed++) {
            LeasedViewStore x = new LeasedViewStore(2);
            x.ping(0);
            x.deliver(0);
            if (crashed == 1) {
                x.crash(0);
            }
            due("VIEW", x.deliver(0), 2 + 8 * crashed);
            due("view", x.view(0), crashed == 1 ? 0 : shown(1, 0, NOBODY));
            due("role", x.role(0), crashed == 1 ? 8 : 1);
        }
        // A VIEW that would make it send a FILL.
        LeasedViewStore y = paired(2);
        y.ping(0);
        y.deliver(0);
        y.crash(0);
        due("VIEW of view 2", y.deliver(0), 10);
        due("view", y.view(0), shown(1, 0, NOBODY));
        due("no FILL", y.letters(), 0);
    }

    private static void fillToCrashed() {
        for (int crashed = 0; crashed <= 1; crashed++) {
            LeasedViewStore x = alone(2);
            write(x, 0, 0, 1, 4);
            pingThrough(x, 1);
            x.check();
            pingThroughOnly(x, 0);
            if (crashed == 1) {
                x.crash(1);
            }
            due("FILL", x.deliver(0), 3 + 8 * crashed);
            due("view", x.view(1), crashed == 1 ? shown(1, 0, NOBODY) : shown(2, 0, 1));
            due("role", x.role(1), crashed == 1 ? 8 + 6 : 4);
            due("cell", x.cell(1, 1), crashed == 1 ? 0 : 4);
            due("count", x.count(1), 1 - crashed);
            due("FILLED", x.letters(), 1 - crashed);
        }
    }

    private static void filledToCrashed() {
        for (int crashed = 0; crashed <= 1; crashed++) {
            LeasedViewStore x = filling(2);
            x.deliver(0);
            if (crashed == 1) {
                x.crash(0);
            }
            due("FILLED", x.deliver(0), 4 + 8 * crashed);
            due("role", x.role(0), crashed == 1 ? 8 + 2 : 1);
        }
    }

    private static void passToCrashed() {
        for (int crashed = 0; crashed <= 1; crashed++) {
            LeasedViewStore x = pending(2, 0, 1, 4);
            if (crashed == 1) {
                x.crash(1);
            }
            due("PASS", x.deliver(0), 5 + 8 * crashed);
            due("count", x.count(1), 1 - crashed);
            due("cell", x.cell(1, 1), crashed == 1 ? 0 : 4);
            due("PASSED", x.letters(), 1 - crashed);
        }
    }

    private static void passedToCrashed() {
        for (int crashed = 0; crashed <= 1; crashed++) {
            LeasedViewStore x = pending(2, 0, 1, 4);
            x.deliver(0);
            if (crashed == 1) {
                x.crash(0);
            }
            due("PASSED", x.deliver(0), 6 + 8 * crashed);
            due("count", x.count(0), 1 - crashed);
            due("role", x.role(0), crashed == 1 ? 8 + 3 : 1);
            due("ANSWER", x.letters(), 1 - crashed);
        }
    }

    private static void askToCrashed() {
        for (int crashed = 0; crashed <= 1; crashed++) {
            LeasedViewStore x = running(2);
            x.begin(0, false, 0, 0);
            x.send(0, 0);
            x.begin(1, true, 0, 5);
            x.send(1, 0);
            if (crashed == 1) {
                x.crash(0);
            }
            due("ASK of a read", x.deliver(0), 7 + 8 * crashed);
            due("ASK of a write", x.deliver(0), 7 + 8 * crashed);
            due("role", x.role(0), crashed == 1 ? 8 + 1 : 3);
            due("sent", x.letters(), 2 - 2 * crashed);
        }
    }

    /** Letters from a crashed server, and letters to others, are not idle for that. */
    private static void lettersOfCrashed() {
        LeasedViewStore x = filling(2);
        x.crash(0);
        due("FILL from a crashed primary", x.deliver(0), 3);
        due("filled", x.role(1), 4);
        due("its FILLED is to the crashed one", x.deliver(0), 12);

        x = filling(2);
        x.deliver(0);
        x.crash(1);
        due("FILLED from a crashed backup", x.deliver(0), 4);
        due("ready", x.role(0), 1);

        x = pending(2, 0, 1, 4);
        x.crash(0);
        due("PASS from a crashed primary", x.deliver(0), 5);
        due("done", x.cell(1, 1), 4);

        x = pending(2, 0, 1, 4);
        x.deliver(0);
        x.crash(1);
        due("PASSED from a crashed backup", x.deliver(0), 6);
        due("done", x.cell(0, 1), 4);
        x.crash(0);
        due("ANSWER from a crashed primary", x.deliver(0), 8);
        due("finished", x.finished(0), 1);
    }
}
