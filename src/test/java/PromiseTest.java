/**
 * For each promise: ordinary inputs, edges and wrong inputs, and some stories of more than one view.
 * The kinds of letters have their tests in LetterBoundaryTest.
 */
public final class PromiseTest extends TestBase {
    public static void main(String[] args) {
        about("promise 1, a new object"); newObject(); newObjectIsBlank();
        about("promise 2, advance"); advance();
        about("promise 3, skew"); skew(); skewAndLease(); skewOfCrashed();
        about("promise 4, ping"); ping(); pingBearsWhatWasWhenSent(); pingOfUnreadyPrimary();
        about("promise 5, check"); checkWithoutConfirmedView(); checkAddsBackup(); checkNothingFits();
        checkPromotesBackup(); checkReplacesBackup(); checkDropsBackup(); checkFreshEdge();
        checkBothStale(); checkLeastNewcomer(); checkPromotesWithoutNewcomer(); checkCrashedIsFresh();
        about("promise 6, push"); pushRefused(); pushFill(); pushPass(); pushFillCopiesNow();
        about("promise 7, begin"); begin(); beginOrderOfRefusals(); beginIgnoresValueOfRead();
        about("promise 8, send"); send(); sendBearsWhatWasWhenSent();
        about("promise 9, deliver"); deliverRefused(); deliverPlaces(); deliverIdleOnCrashed();
        about("promise 10, lose"); lose();
        about("promise 11, crash"); crash();
        about("promise 12, letters"); letters(); lettersAreFull();
        about("promise 13, letter"); letter();
        about("promise 14, view"); view();
        about("promise 15, role"); role();
        about("promise 16, cell"); cell();
        about("promise 17, count"); count();
        about("promise 18, finished"); finished();
        about("promise 19, result"); result();
        about("the state of a new backup"); fillBearsLatestWrites(); fillCopyIsOld();
        about("a backup becomes primary"); backupBecomesPrimary(); stateKnowsLatestWrites();
        end();
    }

    // ---- promise 1

    private static void newObject() {
        int[][] sizes = {{MIN, 2}, {-1, 2}, {0, 2}, {1, 2}, {2, 2}, {3, 3}, {4, 4}, {5, 5}, {6, 5}, {MAX, 5}};
        for (int[] size : sizes) {
            LeasedViewStore x = new LeasedViewStore(size[0]);
            for (int s = 0; s < size[1]; s++) {
                due("count of " + s + " of " + size[0], x.count(s), 0);
            }
            due("count past the last of " + size[0], x.count(size[1]), -1);
        }
    }

    private static void newObjectIsBlank() {
        LeasedViewStore x = new LeasedViewStore(5);
        due("letters", x.letters(), 0);
        due("time", x.advance(0), 0);
        due("service's view", x.view(-1), 0);
        for (int s = 0; s < 5; s++) {
            due("view", x.view(s), 0);
            due("role", x.role(s), 0);
            for (int k = 0; k < 4; k++) {
                due("cell", x.cell(s, k), 0);
            }
        }
        for (int c = 0; c < 3; c++) {
            due("finished", x.finished(c), 0);
            due("result", x.result(c), 0);
            due("send", x.send(c, 0), false);
        }
    }

    // ---- promise 2

    private static void advance() {
        LeasedViewStore x = new LeasedViewStore(3);
        due("0", x.advance(0), 0);
        due("7", x.advance(7), 7);
        due("1000", x.advance(1000), 1007);
        due("-1", x.advance(-1), -1);
        due("1001", x.advance(1001), -1);
        due("least", x.advance(MIN), -1);
        due("greatest", x.advance(MAX), -1);
        due("0 after refusals", x.advance(0), 1007);
        due("1", x.advance(1), 1008);
    }

    // ---- promise 3

    private static void skew() {
        LeasedViewStore x = new LeasedViewStore(3);
        due("-10", x.skew(0, -10), true);
        due("10", x.skew(2, 10), true);
        due("0", x.skew(1, 0), true);
        due("-11", x.skew(0, -11), false);
        due("11", x.skew(0, 11), false);
        due("least", x.skew(0, MIN), false);
        due("greatest", x.skew(0, MAX), false);
        due("server -1", x.skew(-1, 0), false);
        due("server 3", x.skew(3, 0), false);
        due("server least", x.skew(MIN, 0), false);
        due("server greatest", x.skew(MAX, 0), false);
    }

    /** The lease is 110 by a fast clock; then the clock goes back while the lease stays. */
    private static void skewAndLease() {
        LeasedViewStore x = new LeasedViewStore(2);
        x.skew(0, 10);
        pingThrough(x, 0);
        x.skew(0, -10);
        x.skew(0, 99);
        x.begin(0, false, 0, 0);
        x.advance(119);
        x.send(0, 0);
        due("read at clock 109", x.deliver(0), 7);
        x.advance(1);
        x.send(0, 0);
        due("read at clock 110", x.deliver(1), 15);
        x.skew(1, -10);
        x.send(0, 0);
        due("the skew of another server", x.deliver(1), 15);
    }

    private static void skewOfCrashed() {
        LeasedViewStore x = new LeasedViewStore(2);
        x.crash(0);
        due("crashed", x.skew(0, 5), true);
        due("crashed, wrong", x.skew(0, 11), false);
    }

    // ---- promise 4

    private static void ping() {
        LeasedViewStore x = new LeasedViewStore(3);
        int[] nobody = {MIN, -1, 3, 5, MAX};
        for (int s : nobody) {
            due("server " + s, x.ping(s), false);
        }
        due("letters after refusals", x.letters(), 0);
        due("server 2", x.ping(2), true);
        due("letter", x.letter(0), 1 + 16 * 2);
        due("service not reached yet", x.view(-1), 0);
        x.crash(2);
        due("crashed", x.ping(2), false);
        due("letters", x.letters(), 1);
    }

    /** The clock is that of the call, not of the delivery: lease 100 although delivered at 50. */
    private static void pingBearsWhatWasWhenSent() {
        LeasedViewStore x = new LeasedViewStore(2);
        x.ping(0);
        x.advance(50);
        x.skew(0, 10);
        x.deliver(0);
        x.deliver(0);
        x.skew(0, 0);
        x.begin(0, false, 0, 0);
        x.advance(49);
        x.send(0, 0);
        due("read at 99", x.deliver(0), 7);
        x.advance(1);
        x.send(0, 0);
        due("read at 100", x.deliver(1), 15);

        // This ping was sent before the server was in a view, so it confirms nothing.
        LeasedViewStore y = new LeasedViewStore(2);
        y.ping(0);
        y.ping(0);
        y.ping(1);
        settle(y);
        due("check after pings from before the view", y.check(), 1);
        pingThrough(y, 0);
        due("check after a ping from within", y.check(), 2);
    }

    private static void pingOfUnreadyPrimary() {
        LeasedViewStore x = filling(3);
        x.lose(0);
        x.ping(0);
        x.deliver(0);
        x.deliver(0);
        x.ping(2);
        x.deliver(0);
        x.deliver(0);
        x.advance(130);
        x.ping(0);
        x.deliver(0);
        x.deliver(0);
        due("not confirmed while not ready", x.check(), 2);
        x.push(0);
        settle(x);
        due("ready", x.role(0), 1);
        due("not confirmed by becoming ready", x.check(), 2);
        pingThrough(x, 0);
        due("confirmed by the ping when ready", x.check(), 3);
    }

    // ---- promise 5

    private static void checkWithoutConfirmedView() {
        LeasedViewStore x = new LeasedViewStore(3);
        due("no view", x.check(), 0);
        pingThrough(x, 0);
        pingThrough(x, 1);
        due("not confirmed", x.check(), 1);
        due("view", x.view(-1), shown(1, 0, 7));
    }

    private static void checkAddsBackup() {
        LeasedViewStore x = alone(3);
        due("nobody to add", x.check(), 1);
        pingThrough(x, 2);
        due("one to add", x.check(), 2);
        due("view", x.view(-1), shown(2, 0, 2));
        pingThrough(x, 1);
        due("not confirmed", x.check(), 2);
        pingThrough(x, 0);
        due("primary was not ready at its ping", x.check(), 2);
        pingThrough(x, 0);
        due("both fresh", x.check(), 2);
        due("view", x.view(-1), shown(2, 0, 2));
    }

    private static void checkNothingFits() {
        LeasedViewStore x = alone(3);
        x.advance(200);
        pingThrough(x, 1);
        due("stale primary without backup", x.check(), 1);
        due("view", x.view(-1), shown(1, 0, 7));
        pingThrough(x, 0);
        due("still confirmed", x.check(), 2);
    }

    private static void checkPromotesBackup() {
        LeasedViewStore x = running(3);
        x.advance(130);
        pingThrough(x, 1);
        pingThrough(x, 2);
        due("stale primary", x.check(), 3);
        due("view", x.view(-1), shown(3, 1, 2));
        due("server not told", x.view(1), shown(2, 0, 1));
        due("not confirmed", x.check(), 3);
    }

    private static void checkPromotesWithoutNewcomer() {
        LeasedViewStore x = running(2);
        x.advance(130);
        pingThrough(x, 1);
        due("stale primary", x.check(), 3);
        due("view without a backup", x.view(-1), shown(3, 1, 7));
        pingThrough(x, 1);
        due("role", x.role(1), 1);
        pingThrough(x, 1);
        pingThrough(x, 0);
        due("the old primary comes back", x.check(), 4);
        due("as backup", x.view(-1), shown(4, 1, 0));
    }

    private static void checkReplacesBackup() {
        LeasedViewStore x = running(4);
        x.advance(130);
        pingThrough(x, 0);
        pingThrough(x, 3);
        due("stale backup", x.check(), 3);
        due("view", x.view(-1), shown(3, 0, 3));
    }

    private static void checkDropsBackup() {
        LeasedViewStore x = running(4);
        x.advance(130);
        pingThrough(x, 0);
        due("stale backup, no newcomer", x.check(), 3);
        due("view", x.view(-1), shown(3, 0, 7));
        pingThrough(x, 0);
        due("ready alone", x.role(0), 1);
        pingThrough(x, 0);
        due("still nobody", x.check(), 3);
    }

    private static void checkFreshEdge() {
        LeasedViewStore x = running(3);
        x.advance(129);
        pingThrough(x, 0);
        due("backup fresh at 129", x.check(), 2);
        x.advance(1);
        due("backup stale at 130", x.check(), 3);

        LeasedViewStore y = alone(3);
        pingThrough(y, 2);
        y.advance(129);
        pingThrough(y, 0);
        pingThrough(y, 1);
        y.advance(1);
        due("newcomer", y.check(), 2);
        due("the stale one is passed over", y.view(-1), shown(2, 0, 1));

        // What counts is when the ping arrived, not when it was sent.
        LeasedViewStore z = running(3);
        z.ping(1);
        z.advance(130);
        pingThrough(z, 0);
        z.advance(129);
        pingThrough(z, 0);
        due("backup's ping arrived 129 ago", z.check(), 2);
    }

    private static void checkBothStale() {
        LeasedViewStore x = running(3);
        x.advance(130);
        pingThrough(x, 2);
        due("both stale", x.check(), 2);
        due("view", x.view(-1), shown(2, 0, 1));
    }

    private static void checkLeastNewcomer() {
        LeasedViewStore x = running(5);
        x.advance(130);
        pingThrough(x, 4);
        pingThrough(x, 3);
        pingThrough(x, 1);
        due("stale primary", x.check(), 3);
        due("least fresh newcomer", x.view(-1), shown(3, 1, 3));
    }

    /** The service only knows of pings. */
    private static void checkCrashedIsFresh() {
        LeasedViewStore x = running(3);
        x.crash(0);
        x.crash(1);
        x.advance(129);
        due("crashed but fresh", x.check(), 2);
    }

    // ---- promise 6

    private static void pushRefused() {
        LeasedViewStore x = running(3);
        int[] nobody = {MIN, -1, 3, MAX};
        for (int s : nobody) {
            due("server " + s, x.push(s), false);
        }
        due("ready, nothing pending", x.push(0), false);
        due("backup", x.push(1), false);
        due("without a view", x.push(2), false);
        due("letters", x.letters(), 0);
        due("primary alone", alone(2).push(0), false);
        LeasedViewStore y = filling(2);
        y.crash(0);
        due("crashed", y.push(0), false);
        due("letters", y.letters(), 1);
    }

    private static void pushFill() {
        LeasedViewStore x = filling(2);
        due("not ready", x.push(0), true);
        due("letters", x.letters(), 2);
        due("letter", x.letter(1), 3 + 16);
        x.lose(0);
        due("FILL", x.deliver(0), 3);
        due("FILLED", x.deliver(0), 4);
        due("no more", x.push(0), false);
    }

    private static void pushPass() {
        LeasedViewStore x = pending(2, 0, 1, 9);
        x.lose(0);
        due("pending", x.push(0), true);
        due("letter", x.letter(0), 5 + 16);
        due("letters", x.letters(), 1);
        due("PASS", x.deliver(0), 5);
        due("the write", x.cell(1, 1), 9);
        due("pending still", x.push(0), true);
        due("PASSED", x.deliver(0), 6);
        due("ANSWER", x.deliver(1), 8);
        due("PASS again", x.deliver(0), 5);
        due("done once", x.count(1), 1);
        due("PASSED again", x.deliver(0), 14);
        due("no more", x.push(0), false);
    }

    /** The state cannot change while a primary is not ready, so both FILLs bear the same. */
    private static void pushFillCopiesNow() {
        LeasedViewStore x = alone(2);
        write(x, 0, 0, 2, 5);
        pingThrough(x, 1);
        x.check();
        x.ping(0);
        x.deliver(0);
        x.deliver(0);
        x.lose(0);
        x.push(0);
        x.deliver(0);
        due("cell", x.cell(1, 2), 5);
        due("count", x.count(1), 1);
    }

    // ---- promise 7

    private static void begin() {
        LeasedViewStore x = alone(2);
        for (int c : NO_CLIENT) {
            due("client " + c, x.begin(c, true, 0, 0), -1);
        }
        for (int k : NO_CELL) {
            due("cell " + k, x.begin(0, false, k, 0), -1);
        }
        due("write", x.begin(0, true, 0, 5), 1);
        due("nothing is sent", x.letters(), 0);
        due("under way", x.begin(0, true, 0, 5), -2);
        due("other client", x.begin(2, false, 3, 0), 1);
        x.send(0, 0);
        settle(x);
        due("read is numbered on", x.begin(0, false, 3, 0), 2);
        x.send(0, 0);
        settle(x);
        due("next", x.begin(0, true, 3, 0), 3);
    }

    private static void beginOrderOfRefusals() {
        LeasedViewStore x = alone(2);
        x.begin(1, true, 2, 8);
        due("no cell before under way", x.begin(1, true, 4, 0), -1);
        due("under way", x.begin(1, false, 0, 0), -2);
        x.send(1, 0);
        settle(x);
        due("the refused changed nothing", x.cell(0, 2), 8);
        due("the refused took no number", x.begin(1, true, 0, 0), 2);
    }

    private static void beginIgnoresValueOfRead() {
        LeasedViewStore x = alone(2);
        write(x, 0, 0, 0, 4);
        x.begin(1, false, 0, 99);
        x.send(1, 0);
        settle(x);
        due("result", x.result(1), 4);
        due("cell", x.cell(0, 0), 4);
        due("count", x.count(0), 1);
    }

    // ---- promise 8

    private static void send() {
        LeasedViewStore x = alone(3);
        due("nothing under way", x.send(0, 0), false);
        x.begin(0, true, 1, 3);
        for (int c : NO_CLIENT) {
            due("client " + c, x.send(c, 0), false);
        }
        int[] nobody = {MIN, -1, 3, MAX};
        for (int s : nobody) {
            due("server " + s, x.send(0, s), false);
        }
        due("other client", x.send(1, 0), false);
        due("letters after refusals", x.letters(), 0);
        x.crash(2);
        due("crashed server", x.send(0, 2), true);
        due("again", x.send(0, 0), true);
        due("and again", x.send(0, 0), true);
        due("letter", x.letter(0), 7 + 16 * 2);
        due("letter", x.letter(1), 7);
        due("letters", x.letters(), 3);
        settle(x);
        due("done once", x.count(0), 1);
        due("finished", x.send(0, 0), false);
    }

    /** A late ASK still bears the operation that it was sent with. */
    private static void sendBearsWhatWasWhenSent() {
        LeasedViewStore x = alone(2);
        x.begin(0, true, 1, 3);
        x.send(0, 0);
        x.send(0, 0);
        x.deliver(0);
        x.deliver(1);
        x.begin(0, true, 2, 6);
        due("late ASK", x.deliver(0), 7);
        due("its ANSWER is to the first", x.deliver(0), 16);
        due("second is not done", x.cell(0, 2), 0);
        due("first stays", x.cell(0, 1), 3);
    }

    // ---- promise 9

    private static void deliverRefused() {
        LeasedViewStore x = new LeasedViewStore(2);
        due("none waits", x.deliver(0), -1);
        x.ping(0);
        int[] none = {MIN, -1, 1, 31, 32, 33, MAX};
        for (int i : none) {
            due("place " + i, x.deliver(i), -1);
        }
        due("letters", x.letters(), 1);
        due("place 0", x.deliver(0), 1);
    }

    private static void deliverPlaces() {
        LeasedViewStore x = new LeasedViewStore(4);
        x.ping(0);
        x.ping(1);
        x.ping(2);
        x.ping(3);
        due("the third", x.deliver(2), 1);
        due("view", x.view(-1), shown(1, 2, 7));
        due("first", x.letter(0), 1);
        due("second", x.letter(1), 1 + 16);
        due("those behind move up", x.letter(2), 1 + 16 * 3);
        due("what is sent comes last", x.letter(3), 2 + 16 * 2);
        due("letters", x.letters(), 4);
    }

    private static void deliverIdleOnCrashed() {
        LeasedViewStore x = new LeasedViewStore(2);
        x.ping(0);
        x.deliver(0);
        x.crash(0);
        due("VIEW", x.deliver(0), 10);
        due("view", x.view(0), 0);

        x = filling(2);
        x.crash(1);
        due("FILL", x.deliver(0), 11);
        due("role of the backup", x.role(1), 8 + 6);
        due("letters", x.letters(), 0);

        x = filling(2);
        x.deliver(0);
        x.crash(0);
        due("FILLED", x.deliver(0), 12);
        due("role of the primary", x.role(0), 8 + 2);

        x = pending(2, 0, 0, 1);
        x.crash(1);
        due("PASS", x.deliver(0), 13);
        due("count", x.count(1), 0);

        x = pending(2, 0, 0, 1);
        x.deliver(0);
        x.crash(0);
        due("PASSED", x.deliver(0), 14);
        due("count", x.count(0), 0);

        x = alone(2);
        x.begin(0, true, 0, 1);
        x.send(0, 0);
        x.crash(0);
        due("ASK", x.deliver(0), 15);
        due("count", x.count(0), 0);
    }

    // ---- promise 10

    private static void lose() {
        LeasedViewStore x = new LeasedViewStore(3);
        due("none waits", x.lose(0), false);
        x.ping(0);
        x.ping(1);
        x.ping(2);
        int[] none = {MIN, -1, 3, 32, MAX};
        for (int i : none) {
            due("place " + i, x.lose(i), false);
        }
        due("letters", x.letters(), 3);
        due("the second", x.lose(1), true);
        due("letters", x.letters(), 2);
        due("first", x.letter(0), 1);
        due("those behind move up", x.letter(1), 1 + 16 * 2);
        due("no effect", x.view(-1), 0);
        due("last", x.lose(1), true);
        due("first", x.lose(0), true);
        due("none left", x.lose(0), false);
    }

    // ---- promise 11

    private static void crash() {
        LeasedViewStore x = pending(3, 0, 1, 5);
        int[] nobody = {MIN, -1, 3, MAX};
        for (int s : nobody) {
            due("server " + s, x.crash(s), false);
        }
        due("server 0", x.crash(0), true);
        due("again", x.crash(0), false);
        due("letters wait on", x.letters(), 1);
        due("view stays", x.view(0), shown(2, 0, 1));
        due("pending stays", x.role(0), 8 + 3);
        due("its letter still works", x.deliver(0), 5);
        due("cell of the backup", x.cell(1, 1), 5);
        due("without a view", x.crash(2), true);
        due("role", x.role(2), 8);
    }

    // ---- promise 12

    private static void letters() {
        LeasedViewStore x = new LeasedViewStore(2);
        due("new", x.letters(), 0);
        x.ping(0);
        due("one", x.letters(), 1);
        x.ping(1);
        due("two", x.letters(), 2);
        x.deliver(0);
        due("one delivered, one sent", x.letters(), 2);
        x.lose(0);
        due("one lost", x.letters(), 1);
        x.deliver(0);
        due("none", x.letters(), 0);
    }

    private static void lettersAreFull() {
        LeasedViewStore x = filling(3);
        x.begin(0, true, 0, 1);
        for (int i = 1; i < 32; i++) {
            due("letters", x.letters(), i);
            due("ping", x.ping(2), true);
        }
        due("full", x.letters(), 32);
        due("ping", x.ping(0), true);
        due("push", x.push(0), true);
        due("send", x.send(0, 0), true);
        due("still full", x.letters(), 32);
        due("last is the last that had room", x.letter(31), 1 + 16 * 2);
        due("first", x.letter(0), 3 + 16);
        due("a delivered one makes room", x.deliver(0), 3);
        due("letters", x.letters(), 32);
        due("its FILLED comes last", x.letter(31), 4);
        x.lose(30);
        due("room", x.send(0, 1), true);
        due("letter", x.letter(31), 7 + 16);
        due("FILLED has moved up", x.deliver(30), 4);
        due("role", x.role(0), 1);
        due("letters", x.letters(), 31);
    }

    // ---- promise 13

    private static void letter() {
        LeasedViewStore x = new LeasedViewStore(5);
        due("none", x.letter(0), -1);
        x.ping(3);
        int[] none = {MIN, -1, 1, 32, 33, MAX};
        for (int i : none) {
            due("place " + i, x.letter(i), -1);
        }
        due("PING", x.letter(0), 1 + 16 * 3);
        x.deliver(0);
        due("VIEW", x.letter(0), 2 + 16 * 3);
        due("looking changes nothing", x.letter(0), 2 + 16 * 3);
        x.deliver(0);
        pingThrough(x, 3);
        pingThrough(x, 2);
        x.check();
        x.ping(3);
        x.deliver(0);
        x.deliver(0);
        due("FILL", x.letter(0), 3 + 16 * 2);
        x.deliver(0);
        due("FILLED", x.letter(0), 4 + 16 * 3);
        x.deliver(0);
        x.begin(1, true, 0, 0);
        x.send(1, 3);
        due("ASK", x.letter(0), 7 + 16 * 3);
        x.deliver(0);
        due("PASS", x.letter(0), 5 + 16 * 2);
        x.deliver(0);
        due("PASSED", x.letter(0), 6 + 16 * 3);
        x.deliver(0);
        due("ANSWER", x.letter(0), 8 + 16);
        x.deliver(0);
        due("none", x.letter(0), -1);
    }

    // ---- promise 14

    private static void view() {
        LeasedViewStore x = new LeasedViewStore(3);
        due("service, none", x.view(-1), 0);
        due("server, none", x.view(2), 0);
        int[] nobody = {MIN, -2, 3, 7, MAX};
        for (int s : nobody) {
            due("server " + s, x.view(s), -1);
        }
        pingThrough(x, 2);
        due("service", x.view(-1), shown(1, 2, 7));
        due("server 2", x.view(2), shown(1, 2, 7));
        due("server 0", x.view(0), 0);
        pingThrough(x, 2);
        pingThrough(x, 0);
        due("server 0 is told", x.view(0), shown(1, 2, 7));
        x.check();
        due("service", x.view(-1), shown(2, 2, 0));
        due("server 2 is not told", x.view(2), shown(1, 2, 7));
        pingThrough(x, 2);
        due("server 2", x.view(2), shown(2, 2, 0));
        due("server 0", x.view(0), shown(2, 2, 0));
    }

    // ---- promise 15

    private static void role() {
        int[] nobody = {MIN, -1, 3, MAX};
        LeasedViewStore x = filling(3);
        for (int s : nobody) {
            due("server " + s, x.role(s), -1);
        }
        due("none", x.role(2), 0);
        due("primary, not ready", x.role(0), 2);
        due("neither", x.role(1), 6);
        pingThroughOnly(x, 1);
        due("backup, not filled", x.role(1), 5);
        settle(x);
        due("backup, filled", x.role(1), 4);
        due("primary, ready", x.role(0), 1);
        x.begin(0, true, 0, 0);
        x.send(0, 0);
        x.deliver(0);
        due("primary, pending", x.role(0), 3);
        for (int s = 0; s < 3; s++) {
            int role = x.role(s);
            x.crash(s);
            due("crashed", x.role(s), role + 8);
        }
    }

    // ---- promise 16

    private static void cell() {
        LeasedViewStore x = running(3);
        write(x, 0, 0, 0, MIN);
        write(x, 1, 0, 3, MAX);
        due("primary 0", x.cell(0, 0), MIN);
        due("primary 3", x.cell(0, 3), MAX);
        due("primary 1", x.cell(0, 1), 0);
        due("backup 0", x.cell(1, 0), MIN);
        due("backup 3", x.cell(1, 3), MAX);
        due("neither", x.cell(2, 0), 0);
        for (int k : NO_CELL) {
            due("cell " + k, x.cell(0, k), 0);
        }
        int[] nobody = {MIN, -1, 3, MAX};
        for (int s : nobody) {
            due("server " + s, x.cell(s, 0), 0);
        }
        x.crash(0);
        due("crashed", x.cell(0, 3), MAX);
        x.advance(130);
        pingThrough(x, 1);
        x.check();
        pingThrough(x, 1);
        write(x, 2, 1, 3, 6);
        due("new primary", x.cell(1, 3), 6);
        due("the one left out", x.cell(0, 3), MAX);
    }

    // ---- promise 17

    private static void count() {
        LeasedViewStore x = running(3);
        int[] nobody = {MIN, -1, 3, MAX};
        for (int s : nobody) {
            due("server " + s, x.count(s), -1);
        }
        due("new", x.count(0), 0);
        write(x, 0, 0, 0, 7);
        write(x, 0, 0, 0, 7);
        due("two, with the same value", x.count(0), 2);
        due("backup", x.count(1), 2);
        due("neither", x.count(2), 0);
        x.begin(1, false, 0, 0);
        x.send(1, 0);
        settle(x);
        due("a read does not count", x.count(0), 2);
        x.crash(0);
        due("crashed", x.count(0), 2);
    }

    // ---- promise 18

    private static void finished() {
        LeasedViewStore x = alone(2);
        for (int c : NO_CLIENT) {
            due("client " + c, x.finished(c), -1);
        }
        x.begin(1, true, 0, 4);
        due("begun", x.finished(1), 0);
        x.send(1, 0);
        x.send(1, 0);
        x.deliver(0);
        due("done, not answered", x.finished(1), 0);
        x.deliver(1);
        due("answered", x.finished(1), 1);
        settle(x);
        due("answered again", x.finished(1), 1);
        x.begin(1, false, 0, 0);
        due("next begun", x.finished(1), 1);
        x.send(1, 0);
        settle(x);
        due("a read counts", x.finished(1), 2);
        due("others", x.finished(0) + x.finished(2), 0);
    }

    // ---- promise 19

    private static void result() {
        LeasedViewStore x = alone(2);
        for (int c : NO_CLIENT) {
            due("client " + c, x.result(c), 0);
        }
        write(x, 2, 0, 1, 40);
        due("what the cell held before", x.result(2), 0);
        write(x, 2, 0, 1, -5);
        due("what the cell held before", x.result(2), 40);
        x.begin(2, false, 1, 0);
        due("while another is under way", x.result(2), 40);
        x.send(2, 0);
        settle(x);
        due("read", x.result(2), -5);
        due("others", x.result(0), 0);
        x.crash(0);
        due("after the crash", x.result(2), -5);
        write(x, 0, 0, 1, 1);
        due("never answered", x.result(0), 0);
    }

    // ---- stories of more than one view

    /** The copy has the latest writes too: a write that was done is answered, not done again. */
    private static void fillBearsLatestWrites() {
        LeasedViewStore x = alone(2);
        write(x, 1, 0, 2, 30);
        x.begin(1, true, 2, 31);
        x.send(1, 0);
        x.deliver(0);
        x.lose(0);
        pingThrough(x, 1);
        x.check();
        pingThrough(x, 0);
        pingThrough(x, 0);
        x.crash(0);
        x.advance(130);
        pingThrough(x, 1);
        x.check();
        pingThrough(x, 1);
        due("alone", x.view(1), shown(3, 1, 7));
        x.send(1, 1);
        due("asked again", x.deliver(0), 7);
        settle(x);
        due("done once", x.count(1), 2);
        due("result", x.result(1), 30);
    }

    /** The FILL bears a copy: what the old primary holds later does not change it. */
    private static void fillCopyIsOld() {
        LeasedViewStore x = alone(2);
        write(x, 0, 0, 0, 1);
        pingThrough(x, 1);
        x.check();
        x.ping(0);
        x.deliver(0);
        x.deliver(0);
        x.push(0);
        x.deliver(1);
        x.deliver(1);
        write(x, 0, 0, 0, 2);
        due("primary", x.cell(0, 0), 2);
        due("backup", x.cell(1, 0), 2);

        // The backup's own state, from another life, gives way to the copy whole.
        LeasedViewStore y = running(2);
        write(y, 0, 0, 0, 5);
        y.advance(130);
        pingThrough(y, 1);
        y.check();
        pingThrough(y, 1);
        write(y, 0, 1, 1, 6);
        due("left out", y.cell(0, 1), 0);
        pingThrough(y, 1);
        pingThrough(y, 0);
        y.check();
        pingThrough(y, 1);
        due("filled anew", y.role(0), 4);
        due("cell 0", y.cell(0, 0), 5);
        due("cell 1", y.cell(0, 1), 6);
        due("count", y.count(0), 2);
    }

    private static void backupBecomesPrimary() {
        LeasedViewStore x = running(3);
        write(x, 0, 0, 0, 5);
        x.advance(130);
        pingThrough(x, 1);
        pingThrough(x, 2);
        x.check();
        x.ping(1);
        x.deliver(0);
        x.deliver(0);
        due("primary, not ready", x.role(1), 2);
        due("FILL", x.letter(0), 3 + 16 * 2);
        x.begin(1, false, 0, 0);
        x.send(1, 1);
        due("read", x.deliver(1), 7);
        x.deliver(1);
        due("result", x.result(1), 5);
        settle(x);
        due("primary, ready", x.role(1), 1);
        due("backup", x.cell(2, 0), 5);
    }

    /** A write that the old primary did is known to the new one, which does not do it again. */
    private static void stateKnowsLatestWrites() {
        LeasedViewStore x = running(3);
        write(x, 0, 0, 0, 5);
        x.begin(0, true, 0, 6);
        x.send(0, 0);
        x.deliver(0);
        x.deliver(0);
        x.lose(0);
        x.crash(0);
        x.advance(130);
        pingThrough(x, 1);
        pingThrough(x, 2);
        x.check();
        pingThrough(x, 1);
        x.send(0, 1);
        due("ASK", x.deliver(0), 7);
        due("answered at once", x.letter(0), 8);
        settle(x);
        due("result", x.result(0), 5);
        due("count", x.count(1), 2);
        // The copy bears it on to the next.
        x.begin(1, true, 0, 7);
        x.send(1, 1);
        x.deliver(0);
        x.deliver(0);
        x.lose(0);
        pingThrough(x, 1);
        x.crash(1);
        x.advance(130);
        pingThrough(x, 2);
        due("view 4", x.check(), 4);
        pingThrough(x, 2);
        x.send(1, 2);
        settle(x);
        due("result", x.result(1), 6);
        due("count", x.count(2), 3);
    }
}
