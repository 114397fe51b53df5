/** A test for each sentence of promises 1 to 19 that names a boundary case. */
public final class PromiseBoundaryTest extends TestBase {
    public static void main(String[] args) {
        calls();
        checks();
        operations();
        lettersAndCrashes();
        looks();
        end();
    }

    private static void calls() {
        sentence("promise 1:", "N is n, but 2 when n is less and 5 when n is more.",
                PromiseBoundaryTest::sizes);
        sentence("promise 2:", "-1 when d is not 0 .. 1000", PromiseBoundaryTest::steps);
        sentence("promise 3:", "its clock may go back by that; leases stay as they are",
                PromiseBoundaryTest::skewKeepsLease);
        sentence("promise 3:", "a crashed one, too", PromiseBoundaryTest::skewOfCrashed);
        sentence("promise 3:", "false when there is no server s", PromiseBoundaryTest::skewOfNobody);
        sentence("promise 3:", "o is not -10 .. 10", PromiseBoundaryTest::skewTooLarge);
        sentence("promise 4:", "with the number of the view that it is in, or with 0 if it is the primary of"
                + " that and not ready", PromiseBoundaryTest::pingNumber);
        sentence("promise 4:", "and with its clock", PromiseBoundaryTest::pingClock);
        sentence("promise 4:", "false when there is no server s or it has crashed",
                PromiseBoundaryTest::pingRefused);
    }

    private static void checks() {
        sentence("promise 5:", "if it is confirmed", PromiseBoundaryTest::checkConfirmed);
        sentence("promise 5:", "if none of these fits, nothing changes",
                PromiseBoundaryTest::checkNothingFits);
        sentence("promise 5:", "if its primary is not fresh, it has a backup and that is fresh, the backup"
                + " is the primary of a new view", PromiseBoundaryTest::checkPromotes);
        sentence("promise 5:", "if its primary is fresh, and it has no backup or one that is not fresh,"
                + " there is a new view with the same primary", PromiseBoundaryTest::checkKeepsPrimary);
        sentence("promise 5:", "but only if it had a backup or gets one",
                PromiseBoundaryTest::checkOnlyIfBackup);
        sentence("promise 5:", "A new view has the next number, is not confirmed",
                PromiseBoundaryTest::checkNextNumber);
        sentence("promise 5:", "the fresh server with the least number that was neither primary nor backup of"
                + " the view before", PromiseBoundaryTest::checkLeastNewcomer);
        sentence("promise 5:", "if there is one, else none", PromiseBoundaryTest::checkNoNewcomer);
        sentence("promise 5:", "Answers the number of the present view.",
                PromiseBoundaryTest::checkAnswers);
        sentence("promise 6:", "if it is the primary of the view that it is in and that has a backup",
                PromiseBoundaryTest::pushOfEveryRole);
        sentence("promise 6:", "when it is not ready, the FILL with the view and its state",
                PromiseBoundaryTest::pushFill);
        sentence("promise 6:", "when it has a pending write, the PASS with the view's number, the count and"
                + " the write", PromiseBoundaryTest::pushPass);
        sentence("promise 6:", "false when there is no server s, it has crashed, or it has neither to send",
                PromiseBoundaryTest::pushRefused);
    }

    private static void operations() {
        sentence("promise 7:", "v is not looked at", PromiseBoundaryTest::beginReadOfAnyValue);
        sentence("promise 7:", "without sending anything yet", PromiseBoundaryTest::beginSendsNothing);
        sentence("promise 7:", "The operation's number (1, 2, .. of this client, reads and writes in one"
                + " row)", PromiseBoundaryTest::beginNumbers);
        sentence("promise 7:", "-1 when there is no client c or no cell k",
                PromiseBoundaryTest::beginOfNobody);
        sentence("promise 7:", "-2 when it has an operation under way",
                PromiseBoundaryTest::beginUnderWay);
        sentence("Terms:", "Refusals hold in the order in which they are listed.",
                PromiseBoundaryTest::beginOrderOfRefusals);
        sentence("promise 8:", "again, if it did already, to this or another server",
                PromiseBoundaryTest::sendAgain);
        sentence("promise 8:", "to server s (crashed or not): true", PromiseBoundaryTest::sendToCrashed);
        sentence("promise 8:", "false when there is no client c or no server s",
                PromiseBoundaryTest::sendOfNobody);
        sentence("promise 8:", "or the client has no operation under way",
                PromiseBoundaryTest::sendWithoutOperation);
    }

    private static void lettersAndCrashes() {
        sentence("promise 9:", "Delivers the letter at place i of those that wait, from 0 for the one that"
                + " was sent first", PromiseBoundaryTest::deliverPlaces);
        sentence("promise 9:", "its kind (1 .. 8), or its kind and 8 more when it was idle",
                PromiseBoundaryTest::deliverKinds);
        sentence("promise 9:", "-1 when there is none", PromiseBoundaryTest::deliverNone);
        sentence("promise 10:", "The letter at place i is lost: true", PromiseBoundaryTest::loseOne);
        sentence("promise 10:", "false when there is none", PromiseBoundaryTest::loseNone);
        sentence("promise 11:", "Server s crashes for ever", PromiseBoundaryTest::crashForEver);
        sentence("promise 11:", "what it has stays as it was, letters wait on",
                PromiseBoundaryTest::crashKeeps);
        sentence("promise 11:", "false when there is no server s or it has crashed",
                PromiseBoundaryTest::crashRefused);
        sentence("promise 12:", "How many letters wait.", PromiseBoundaryTest::lettersFromEmptyToFull);
        sentence("promise 13:", "its kind + 16 * a", PromiseBoundaryTest::letterOfEachKind);
        sentence("promise 13:", "-1 when there is none", PromiseBoundaryTest::letterNone);
    }

    private static void looks() {
        sentence("promise 14:", "The present view of the service, when s is -1, or the view that server s is"
                + " in", PromiseBoundaryTest::viewOfServiceAndServers);
        sentence("promise 14:", "64 * number + 8 * primary + backup, where 7 stands for no backup; 0 for no"
                + " view", PromiseBoundaryTest::viewNumbers);
        sentence("promise 14:", "-1 when there is no server s", PromiseBoundaryTest::viewOfNobody);
        sentence("promise 15:", "0 without a view, 1 primary and ready, 2 primary and not ready, 3 primary"
                + " with a pending write, 4 backup and filled, 5 backup and not filled, 6 neither",
                PromiseBoundaryTest::roles);
        sentence("promise 15:", "8 more when it has crashed", PromiseBoundaryTest::rolesOfCrashed);
        sentence("promise 15:", "-1 when there is no server s", PromiseBoundaryTest::roleOfNobody);
        sentence("promise 16:", "in its own STATE, crashed or not, whatever the present view is",
                PromiseBoundaryTest::cellOfItsOwn);
        sentence("promise 16:", "0 when there is no server s or no cell k", PromiseBoundaryTest::cellNone);
        sentence("promise 17:", "-1 when there is no server s", PromiseBoundaryTest::countOfNobody);
        sentence("promise 18:", "How many operations client c has finished",
                PromiseBoundaryTest::finishedCounts);
        sentence("promise 18:", "-1 when there is no client c", PromiseBoundaryTest::finishedOfNobody);
        sentence("promise 19:", "while another is under way, too", PromiseBoundaryTest::resultStays);
        sentence("promise 19:", "0 when there is none or no client c", PromiseBoundaryTest::resultNone);
    }

    // ---- promise 1

    private static void sizes() {
        int[][] sizes = {{MIN, 2}, {-1, 2}, {0, 2}, {1, 2}, {2, 2}, {3, 3}, {4, 4}, {5, 5}, {6, 5}, {7, 5},
            {MAX, 5}};
        for (int[] size : sizes) {
            LeasedViewStore x = new LeasedViewStore(size[0]);
            int n = size[1];
            due("last server of " + size[0], x.ping(n - 1), true);
            due("one more than " + size[0], x.ping(n), false);
            due("PING", x.deliver(0), 1);
            due("view", x.view(-1), shown(1, n - 1, NOBODY));
            due("role of one more", x.role(n), -1);
        }
    }

    // ---- promise 2

    private static void steps() {
        int[] wrong = {MIN, -2, -1, 1001, 1002, MAX};
        int[] right = {0, 1, 2, 999, 1000};
        LeasedViewStore x = new LeasedViewStore(2);
        int time = 0;
        for (int d : right) {
            time += d;
            due("advance(" + d + ")", x.advance(d), time);
            for (int w : wrong) {
                due("advance(" + w + ")", x.advance(w), -1);
            }
        }
        due("advance(0) after all", x.advance(0), 2002);
    }

    // ---- promise 3

    private static void skewKeepsLease() {
        // The lease, got at skew 0, is 100; then the clock goes back by 20, from skew 10 to -10.
        LeasedViewStore x = alone(2);
        x.skew(0, 10);
        x.advance(89);
        due("time 89, clock 99", readAt(x, 0), 7);
        x.advance(1);
        due("time 90, clock 100", readAt(x, 0), 15);
        x.skew(0, -10);
        due("time 90, clock 80", readAt(x, 0), 7);
        x.advance(19);
        due("time 109, clock 99", readAt(x, 0), 7);
        x.advance(1);
        due("time 110, clock 100", readAt(x, 0), 15);
        x.skew(0, -9);
        due("time 110, clock 101", readAt(x, 0), 15);
    }

    /** Its skew is never to be seen, for it neither pings nor answers; the call is not refused. */
    private static void skewOfCrashed() {
        LeasedViewStore x = alone(2);
        x.crash(0);
        for (int o = -11; o <= 11; o++) {
            due("skew " + o + " of a crashed server", x.skew(0, o), o >= -10 && o <= 10);
        }
    }

    private static void skewOfNobody() {
        for (int n = 2; n <= 5; n++) {
            LeasedViewStore x = new LeasedViewStore(n);
            for (int s : noServer(n)) {
                due("server " + s + " of " + n, x.skew(s, 0), false);
            }
            due("server 0 of " + n, x.skew(0, 0), true);
            due("server N - 1 of " + n, x.skew(n - 1, 0), true);
        }
    }

    private static void skewTooLarge() {
        LeasedViewStore x = new LeasedViewStore(2);
        int[] wrong = {MIN, MIN + 1, -12, -11, 11, 12, MAX};
        for (int o : wrong) {
            due("skew " + o, x.skew(0, o), false);
        }
        int[] right = {-10, -9, -1, 0, 1, 9, 10};
        for (int o : right) {
            due("skew " + o, x.skew(0, o), true);
        }
        // A refused skew leaves the one before.
        LeasedViewStore y = alone(2);
        y.skew(0, 4);
        y.skew(0, 11);
        y.skew(0, -11);
        y.advance(95);
        due("clock 99", readAt(y, 0), 7);
        y.advance(1);
        due("clock 100", readAt(y, 0), 15);
    }

    // ---- promise 4

    private static void pingNumber() {
        // Not ready, with 0; ready, with 2: only this one confirms view 2.
        LeasedViewStore x = filling(3);
        x.ping(0);
        x.deliver(0);
        x.deliver(1);
        due("ready", x.role(0), 1);
        x.advance(130);
        due("PING from before", x.deliver(0), 1);
        pingHeard(x, 2);
        due("the ping bore 0", x.check(), 2);
        pingHeard(x, 0);
        due("the ping bore 2", x.check(), 3);

        // A pending write does not matter.
        LeasedViewStore y = paired(3);
        pingThrough(y, 0);
        y.begin(0, true, 0, 1);
        y.send(0, 0);
        y.deliver(0);
        y.advance(130);
        pingHeard(y, 0);
        due("pending", y.role(0), 3);
        due("the ping bore 2", y.check(), 3);

        // A primary alone is ready at once.
        LeasedViewStore z = new LeasedViewStore(2);
        pingThrough(z, 0);
        pingHeard(z, 1);
        due("not confirmed", z.check(), 1);
        pingHeard(z, 0);
        due("the ping bore 1", z.check(), 2);
    }

    private static void pingClock() {
        int[] skews = {-10, -1, 0, 1, 10};
        for (int o : skews) {
            LeasedViewStore x = new LeasedViewStore(2);
            x.advance(5);
            x.skew(1, o);
            x.ping(1);
            x.skew(1, 0);
            x.advance(20);
            settle(x);
            x.advance(79 + o);
            due("read before 105 + " + o, readAt(x, 1), 7);
            x.advance(1);
            due("read at 105 + " + o, readAt(x, 1), 15);
        }
    }

    private static void pingRefused() {
        for (int n = 2; n <= 5; n++) {
            LeasedViewStore x = new LeasedViewStore(n);
            for (int s : noServer(n)) {
                due("server " + s + " of " + n, x.ping(s), false);
            }
            due("letters", x.letters(), 0);
            due("server 0 of " + n, x.ping(0), true);
            due("server N - 1 of " + n, x.ping(n - 1), true);
            due("letters", x.letters(), 2);
            x.crash(n - 1);
            due("crashed", x.ping(n - 1), false);
            due("not crashed", x.ping(0), true);
            due("letters", x.letters(), 3);
        }
    }

    // ---- promise 5

    private static void checkConfirmed() {
        LeasedViewStore x = new LeasedViewStore(2);
        pingThrough(x, 0);
        pingHeard(x, 1);
        due("not confirmed, with a newcomer", x.check(), 1);
        pingHeard(x, 0);
        due("confirmed", x.check(), 2);
        // View 2 is not confirmed: nothing changes, whoever is fresh.
        x.advance(130);
        due("not confirmed, nobody fresh", x.check(), 2);
        pingHeard(x, 1);
        due("not confirmed, the backup fresh", x.check(), 2);
        pingHeard(x, 0);
        x.advance(129);
        due("not confirmed, both fresh", x.check(), 2);
        x.advance(1);
        pingHeard(x, 0);
        due("not confirmed, the primary fresh", x.check(), 2);
        due("view", x.view(-1), shown(2, 0, 1));
    }

    private static void checkNothingFits() {
        // Both fresh, a newcomer too.
        LeasedViewStore x = running(3);
        pingHeard(x, 2);
        due("both fresh", x.check(), 2);
        due("view", x.view(-1), shown(2, 0, 1));
        // Neither fresh, the newcomer is.
        LeasedViewStore y = running(3);
        y.advance(130);
        pingHeard(y, 2);
        due("neither fresh", y.check(), 2);
        due("view", y.view(-1), shown(2, 0, 1));
        // A primary alone that is not fresh, the newcomer is.
        LeasedViewStore z = alone(3);
        z.advance(130);
        pingHeard(z, 1);
        due("primary alone not fresh", z.check(), 1);
        due("view", z.view(-1), shown(1, 0, NOBODY));
        // It was confirmed, and is so still when the primary is heard again by a ping that bears nothing.
        LeasedViewStore w = new LeasedViewStore(2);
        w.ping(0);
        w.ping(0);
        w.deliver(0);
        w.deliver(1);
        pingHeard(w, 0);
        w.advance(130);
        due("primary alone not fresh", w.check(), 1);
        due("PING that bears 0", w.deliver(0), 1);
        pingHeard(w, 1);
        due("still confirmed", w.check(), 2);
    }

    private static void checkPromotes() {
        LeasedViewStore x = running(3);
        x.advance(130);
        pingHeard(x, 1);
        due("primary stale, backup fresh", x.check(), 3);
        due("without a newcomer", x.view(-1), shown(3, 1, NOBODY));
        LeasedViewStore y = running(3);
        y.advance(130);
        pingHeard(y, 1);
        pingHeard(y, 2);
        due("primary stale, backup fresh", y.check(), 3);
        due("with a newcomer", y.view(-1), shown(3, 1, 2));
        LeasedViewStore z = running(3);
        z.advance(129);
        pingHeard(z, 1);
        due("primary fresh, backup fresh", z.check(), 2);
        // The servers learn it by their pings alone.
        due("server 1 is not told", y.view(1), shown(2, 0, 1));
        due("no letter for it", y.letters(), 0);
    }

    private static void checkKeepsPrimary() {
        LeasedViewStore x = alone(3);
        pingHeard(x, 2);
        due("no backup, a newcomer", x.check(), 2);
        due("view", x.view(-1), shown(2, 0, 2));
        LeasedViewStore y = running(3);
        y.advance(130);
        pingHeard(y, 0);
        pingHeard(y, 2);
        due("stale backup, a newcomer", y.check(), 3);
        due("view", y.view(-1), shown(3, 0, 2));
        // The left out backup may come back later, not at once.
        LeasedViewStore z = running(2);
        z.advance(130);
        pingHeard(z, 0);
        due("stale backup", z.check(), 3);
        due("view", z.view(-1), shown(3, 0, NOBODY));
        pingThrough(z, 0);
        pingHeard(z, 0);
        due("nobody yet", z.check(), 3);
        pingHeard(z, 1);
        due("the old backup anew", z.check(), 4);
        due("view", z.view(-1), shown(4, 0, 1));
    }

    private static void checkOnlyIfBackup() {
        LeasedViewStore x = alone(3);
        due("had none and gets none", x.check(), 1);
        due("view", x.view(-1), shown(1, 0, NOBODY));
        pingHeard(x, 1);
        due("it was left confirmed: had none and gets one", x.check(), 2);
        LeasedViewStore y = running(3);
        y.advance(130);
        pingHeard(y, 0);
        due("had one and gets none", y.check(), 3);
        due("view", y.view(-1), shown(3, 0, NOBODY));
    }

    private static void checkNextNumber() {
        // Two views a round, one number each; checks between confirm nothing.
        LeasedViewStore x = alone(2);
        int number = 1;
        for (int round = 0; round < 5; round++) {
            pingHeard(x, 1);
            number++;
            due("a backup comes", x.check(), number);
            due("not confirmed", x.check(), number);
            pingThrough(x, 0);
            pingHeard(x, 0);
            x.advance(130);
            due("nobody is fresh", x.check(), number);
            pingHeard(x, 0);
            number++;
            due("the backup goes", x.check(), number);
            due("view", x.view(-1), shown(number, 0, NOBODY));
            pingHeard(x, 1);
            due("not confirmed", x.check(), number);
            x.advance(130);
            pingThrough(x, 0);
            pingHeard(x, 0);
            due("nobody to take", x.check(), number);
        }
    }

    private static void checkLeastNewcomer() {
        // Each set of fresh servers among 2, 3 and 4, in each of the three ways to a new view.
        for (int set = 0; set < 8; set++) {
            LeasedViewStore x = running(5);
            x.advance(130);
            pingHeard(x, 1);
            heard(x, set);
            x.check();
            due("promoted, set " + set, x.view(-1), shown(3, 1, least(set)));

            LeasedViewStore y = running(5);
            y.advance(130);
            pingHeard(y, 0);
            heard(y, set);
            y.check();
            due("replaced, set " + set, y.view(-1), shown(3, 0, least(set)));

            LeasedViewStore z = alone(5);
            heard(z, set);
            z.check();
            due("added, set " + set, z.view(-1), set == 0 ? shown(1, 0, NOBODY) : shown(2, 0, least(set)));
        }
        // The primary, with a number less than the newcomer's, is not taken; nor when it is the last.
        LeasedViewStore w = new LeasedViewStore(5);
        pingThrough(w, 4);
        pingHeard(w, 4);
        pingHeard(w, 3);
        w.check();
        due("primary 4", w.view(-1), shown(2, 4, 3));
        // Server 0 as newcomer.
        pingThrough(w, 4);
        pingHeard(w, 4);
        w.advance(130);
        pingHeard(w, 4);
        pingHeard(w, 2);
        pingHeard(w, 0);
        w.check();
        due("newcomer 0", w.view(-1), shown(3, 4, 0));
    }

    /** The servers of the set ping, the one with the greatest number first. */
    private static void heard(LeasedViewStore x, int set) {
        for (int s = 4; s >= 2; s--) {
            if ((set >> (s - 2) & 1) == 1) {
                pingHeard(x, s);
            }
        }
    }

    private static int least(int set) {
        for (int s = 2; s <= 4; s++) {
            if ((set >> (s - 2) & 1) == 1) {
                return s;
            }
        }
        return NOBODY;
    }

    private static void checkNoNewcomer() {
        // Two servers: there is never a third.
        LeasedViewStore x = running(2);
        x.advance(130);
        pingHeard(x, 1);
        due("promoted", x.check(), 3);
        due("without a backup", x.view(-1), shown(3, 1, NOBODY));
        // The others were heard 130 ago.
        LeasedViewStore y = running(4);
        pingHeard(y, 2);
        pingHeard(y, 3);
        y.advance(130);
        pingHeard(y, 0);
        due("dropped", y.check(), 3);
        due("without a backup", y.view(-1), shown(3, 0, NOBODY));
    }

    private static void checkAnswers() {
        LeasedViewStore x = new LeasedViewStore(2);
        due("no view", x.check(), 0);
        x.ping(0);
        x.deliver(0);
        due("view 1", x.check(), 1);
        due("the server in no view does not matter", x.view(0), 0);
        LeasedViewStore y = paired(2);
        due("view 2", y.check(), 2);
        due("the server in view 1 does not matter", y.view(0), shown(1, 0, NOBODY));
    }

    // ---- promise 6

    private static void pushOfEveryRole() {
        due("without a view", new LeasedViewStore(2).push(0), false);
        due("primary without a backup", alone(2).push(0), false);
        due("primary with a backup, not ready", filling(2).push(0), true);
        due("primary with a backup, ready", running(2).push(0), false);
        due("primary with a pending write", pending(2, 0, 0, 1).push(0), true);
        due("backup, filled", running(2).push(1), false);
        LeasedViewStore x = filling(3);
        pingThroughOnly(x, 1);
        due("backup, not filled", x.push(1), false);
        pingThroughOnly(x, 2);
        due("neither", x.push(2), false);
        // It is the server's own view that counts: an old primary pushes on.
        LeasedViewStore y = pending(2, 0, 0, 1);
        y.advance(130);
        pingHeard(y, 1);
        due("view 3", y.check(), 3);
        due("primary of view 2 with a pending write", y.push(0), true);
        // And one that the service has made primary, but that does not know it, does not.
        due("primary of view 3 that is in view 2", y.push(1), false);
    }

    private static void pushFill() {
        LeasedViewStore x = alone(3);
        write(x, 0, 0, 1, 8);
        pingHeard(x, 2);
        x.check();
        pingThroughOnly(x, 0);
        x.lose(0);
        due("not ready", x.push(0), true);
        due("letters", x.letters(), 1);
        due("FILL", x.letter(0), 3 + 16 * 2);
        due("not ready still", x.role(0), 2);
        due("FILL", x.deliver(0), 3);
        due("the view", x.view(2), shown(2, 0, 2));
        due("the state", x.cell(2, 1), 8);
        due("the count", x.count(2), 1);
        due("not ready before the FILLED", x.push(0), true);
        due("FILLED", x.deliver(0), 4);
        due("ready", x.push(0), false);
    }

    private static void pushPass() {
        LeasedViewStore x = running(2);
        write(x, 0, 0, 0, 1);
        x.begin(1, true, 2, 5);
        x.send(1, 0);
        x.deliver(0);
        x.lose(0);
        due("pending", x.push(0), true);
        due("letters", x.letters(), 1);
        due("PASS", x.letter(0), 5 + 16);
        due("PASS", x.deliver(0), 5);
        due("the write", x.cell(1, 2), 5);
        due("the count", x.count(1), 2);
        due("pending before the PASSED", x.push(0), true);
        due("PASSED", x.deliver(0), 6);
        due("none pending", x.push(0), false);
    }

    private static void pushRefused() {
        for (int n = 2; n <= 5; n++) {
            LeasedViewStore x = filling(n);
            for (int s : noServer(n)) {
                due("server " + s + " of " + n, x.push(s), false);
            }
            due("server N - 1 of " + n + " has nothing", x.push(n - 1), false);
            due("letters", x.letters(), 1);
        }
        LeasedViewStore y = filling(2);
        due("not crashed, a FILL to send", y.push(0), true);
        y.crash(0);
        due("crashed, a FILL to send", y.push(0), false);
        due("letters", y.letters(), 2);
        LeasedViewStore z = pending(2, 0, 0, 1);
        z.crash(1);
        due("the backup crashed, a PASS to send", z.push(0), true);
        z.crash(0);
        due("crashed, a PASS to send", z.push(0), false);
        due("letters", z.letters(), 2);
    }

    // ---- promise 7

    private static void beginReadOfAnyValue() {
        int[] values = {MIN, -1, 0, 1, MAX};
        for (int v : values) {
            LeasedViewStore x = alone(2);
            write(x, 0, 0, 3, 44);
            due("read with v " + v, x.begin(1, false, 3, v), 1);
            x.send(1, 0);
            settle(x);
            due("result", x.result(1), 44);
            due("cell", x.cell(0, 3), 44);
            due("count", x.count(0), 1);
        }
    }

    private static void beginSendsNothing() {
        LeasedViewStore x = alone(2);
        due("write", x.begin(0, true, 0, 1), 1);
        due("read", x.begin(1, false, 0, 1), 1);
        due("letters", x.letters(), 0);
        due("count", x.count(0), 0);
    }

    private static void beginNumbers() {
        LeasedViewStore x = alone(2);
        for (int i = 1; i <= 6; i++) {
            for (int c = 0; c <= 2; c++) {
                boolean write = (i + c) % 3 != 0;
                due("client " + c, x.begin(c, write, i % 4, i), i);
                x.send(c, 0);
                settle(x);
            }
        }
    }

    private static void beginOfNobody() {
        LeasedViewStore x = alone(2);
        for (int c : NO_CLIENT) {
            due("write of client " + c, x.begin(c, true, 0, 0), -1);
            due("read of client " + c, x.begin(c, false, 0, 0), -1);
        }
        for (int k : NO_CELL) {
            due("write of cell " + k, x.begin(0, true, k, 0), -1);
            due("read of cell " + k, x.begin(0, false, k, 0), -1);
        }
        due("nothing under way", x.send(0, 0), false);
        int[] clients = {0, 1, 2};
        int[] cells = {0, 3, 1};
        for (int c : clients) {
            due("client " + c + ", cell " + cells[c], x.begin(c, true, cells[c], 5), 1);
        }
    }

    private static void beginUnderWay() {
        LeasedViewStore x = alone(2);
        due("write", x.begin(0, true, 1, 5), 1);
        due("write under way", x.begin(0, true, 2, 6), -2);
        due("read when a write is under way", x.begin(0, false, 2, 6), -2);
        x.send(0, 0);
        settle(x);
        due("the first was done", x.cell(0, 1), 5);
        due("the refused was not", x.cell(0, 2), 0);
        due("no number was taken", x.begin(0, false, 1, 0), 2);
        due("write when a read is under way", x.begin(0, true, 1, 9), -2);
        x.send(0, 0);
        settle(x);
        due("it was a read", x.result(0), 5);
        due("cell", x.cell(0, 1), 5);
    }

    private static void beginOrderOfRefusals() {
        LeasedViewStore x = alone(2);
        x.begin(0, true, 0, 5);
        for (int k : NO_CELL) {
            due("no cell " + k + ", one under way", x.begin(0, true, k, 0), -1);
        }
        due("one under way", x.begin(0, true, 3, 0), -2);
        for (int c : NO_CLIENT) {
            due("no client " + c + ", no cell", x.begin(c, true, 4, 0), -1);
        }
        due("begin of another", x.begin(1, true, 0, 5), 1);
    }

    // ---- promise 8

    private static void sendAgain() {
        LeasedViewStore x = alone(3);
        x.begin(2, true, 1, 6);
        due("first", x.send(2, 0), true);
        due("to this server", x.send(2, 0), true);
        due("to another", x.send(2, 2), true);
        due("letters", x.letters(), 3);
        due("place 0", x.letter(0), 7);
        due("place 1", x.letter(1), 7);
        due("place 2", x.letter(2), 7 + 16 * 2);
        due("first ASK", x.deliver(0), 7);
        due("again after it was done", x.send(2, 0), true);
        settle(x);
        due("done once", x.count(0), 1);
        due("finished once", x.finished(2), 1);
    }

    private static void sendToCrashed() {
        LeasedViewStore x = alone(2);
        x.begin(0, true, 1, 6);
        x.crash(1);
        due("crashed", x.send(0, 1), true);
        due("not crashed", x.send(0, 0), true);
        due("letters", x.letters(), 2);
        due("ASK to the crashed one", x.deliver(0), 15);
        due("ASK to the other", x.deliver(0), 7);
    }

    private static void sendOfNobody() {
        for (int n = 2; n <= 5; n++) {
            LeasedViewStore x = new LeasedViewStore(n);
            for (int c = 0; c <= 2; c++) {
                x.begin(c, false, 0, 0);
            }
            for (int s : noServer(n)) {
                due("server " + s + " of " + n, x.send(0, s), false);
            }
            for (int c : NO_CLIENT) {
                due("client " + c, x.send(c, 0), false);
            }
            due("letters", x.letters(), 0);
            due("client 0, server 0", x.send(0, 0), true);
            due("client 2, server N - 1", x.send(2, n - 1), true);
            due("letters", x.letters(), 2);
        }
    }

    private static void sendWithoutOperation() {
        LeasedViewStore x = alone(2);
        due("none ever", x.send(0, 0), false);
        x.begin(0, false, 0, 0);
        due("one under way", x.send(0, 0), true);
        due("another client's", x.send(1, 0), false);
        settle(x);
        due("finished", x.send(0, 0), false);
        due("letters", x.letters(), 0);
        x.begin(0, false, 0, 0);
        due("the next", x.send(0, 0), true);
    }

    // ---- promise 9

    private static void deliverPlaces() {
        for (int i = 0; i < 5; i++) {
            LeasedViewStore x = new LeasedViewStore(5);
            for (int s = 0; s < 5; s++) {
                x.ping(s);
            }
            due("place " + i, x.deliver(i), 1);
            due("its server is the primary", x.view(-1), shown(1, i, NOBODY));
        }
        // The last place of a full row.
        LeasedViewStore y = new LeasedViewStore(2);
        fillPost(y, 0, 31);
        y.ping(1);
        due("place 31", y.deliver(31), 1);
        due("its server is the primary", y.view(-1), shown(1, 1, NOBODY));
    }

    private static void deliverKinds() {
        LeasedViewStore x = running(2);
        x.ping(0);
        due("PING", x.deliver(0), 1);
        due("VIEW", x.deliver(0), 2);
        x.begin(0, true, 0, 1);
        x.send(0, 0);
        x.send(0, 0);
        due("ASK", x.deliver(0), 7);
        due("ASK, idle", x.deliver(0), 15);
        x.push(0);
        due("PASS", x.deliver(0), 5);
        due("PASS again, not idle", x.deliver(0), 5);
        due("PASSED", x.deliver(0), 6);
        due("PASSED, idle", x.deliver(0), 14);
        x.send(0, 0);
        due("ANSWER", x.deliver(0), 8);
        due("ASK of what was done", x.deliver(0), 7);
        due("ANSWER, idle", x.deliver(0), 16);

        LeasedViewStore y = filling(2);
        y.push(0);
        due("FILL", y.deliver(0), 3);
        due("FILL again, not idle", y.deliver(0), 3);
        due("FILLED", y.deliver(0), 4);
        due("FILLED, idle", y.deliver(0), 12);

        LeasedViewStore z = filling(2);
        z.ping(0);
        z.deliver(1);
        z.crash(0);
        z.crash(1);
        due("FILL, idle", z.deliver(0), 11);
        due("VIEW, idle", z.deliver(0), 10);

        LeasedViewStore w = pending(2, 0, 0, 1);
        w.crash(1);
        due("PASS, idle", w.deliver(0), 13);
    }

    private static void deliverNone() {
        LeasedViewStore x = new LeasedViewStore(2);
        for (int i : noPlace(0)) {
            due("place " + i + " of none", x.deliver(i), -1);
        }
        x.ping(0);
        x.ping(0);
        for (int i : noPlace(2)) {
            due("place " + i + " of two", x.deliver(i), -1);
        }
        due("letters", x.letters(), 2);
        due("no view", x.view(-1), 0);
        due("place 1 of two", x.deliver(1), 1);
        x.lose(1);
        due("place 1 of one", x.deliver(1), -1);
        due("place 0 of one", x.deliver(0), 1);

        LeasedViewStore y = new LeasedViewStore(2);
        fillPost(y, 0, 32);
        y.ping(0);
        for (int i : noPlace(32)) {
            due("place " + i + " of 32", y.deliver(i), -1);
        }
        due("letters", y.letters(), 32);
    }

    // ---- promise 10

    private static void loseOne() {
        for (int i = 0; i < 3; i++) {
            LeasedViewStore x = new LeasedViewStore(3);
            x.ping(0);
            x.ping(1);
            x.ping(2);
            due("place " + i, x.lose(i), true);
            due("letters", x.letters(), 2);
            due("no effect", x.view(-1), 0);
            due("nothing sent", x.letter(2), -1);
            due("place 0", x.letter(0), 1 + 16 * (i == 0 ? 1 : 0));
            due("place 1", x.letter(1), 1 + 16 * (i == 2 ? 1 : 2));
        }
        LeasedViewStore y = new LeasedViewStore(2);
        fillPost(y, 0, 32);
        due("place 31 of 32", y.lose(31), true);
        due("place 0 of 31", y.lose(0), true);
        due("letters", y.letters(), 30);
    }

    private static void loseNone() {
        LeasedViewStore x = new LeasedViewStore(2);
        for (int i : noPlace(0)) {
            due("place " + i + " of none", x.lose(i), false);
        }
        x.ping(0);
        for (int i : noPlace(1)) {
            due("place " + i + " of one", x.lose(i), false);
        }
        due("letters", x.letters(), 1);
        due("place 0 of one", x.lose(0), true);
        due("place 0 of none", x.lose(0), false);
        fillPost(x, 0, 32);
        for (int i : noPlace(32)) {
            due("place " + i + " of 32", x.lose(i), false);
        }
        due("letters", x.letters(), 32);
    }

    // ---- promise 11

    private static void crashForEver() {
        LeasedViewStore x = alone(2);
        x.crash(0);
        x.advance(1000);
        due("role", x.role(0), 8 + 1);
        due("ping", x.ping(0), false);
        due("push", x.push(0), false);
        due("crash", x.crash(0), false);
        due("read", readAt(x, 0), 15);
        pingHeard(x, 1);
        due("check", x.check(), 1);
        due("role still", x.role(0), 8 + 1);
        due("the other has not crashed", x.ping(1), true);
    }

    private static void crashKeeps() {
        LeasedViewStore x = running(2);
        write(x, 0, 0, 1, 7);
        x.begin(1, true, 2, 8);
        x.send(1, 0);
        x.deliver(0);
        x.ping(0);
        x.ping(1);
        x.crash(0);
        x.crash(1);
        due("letters", x.letters(), 3);
        due("PASS", x.letter(0), 5 + 16);
        due("PING of 0", x.letter(1), 1);
        due("PING of 1", x.letter(2), 1 + 16);
        for (int s = 0; s < 2; s++) {
            due("view", x.view(s), shown(2, 0, 1));
            due("cell 1", x.cell(s, 1), 7);
            due("cell 2", x.cell(s, 2), 0);
            due("count", x.count(s), 1);
        }
        due("role of the primary", x.role(0), 8 + 3);
        due("role of the backup", x.role(1), 8 + 4);
        due("the client's operation", x.begin(1, true, 2, 8), -2);
        due("the service's view", x.view(-1), shown(2, 0, 1));
        due("PING of the crashed", x.deliver(1), 1);
    }

    private static void crashRefused() {
        for (int n = 2; n <= 5; n++) {
            LeasedViewStore x = new LeasedViewStore(n);
            for (int s : noServer(n)) {
                due("server " + s + " of " + n, x.crash(s), false);
            }
            for (int s = 0; s < n; s++) {
                due("role before", x.role(s), 0);
                due("server " + s + " of " + n, x.crash(s), true);
                due("server " + s + " again", x.crash(s), false);
                due("role after", x.role(s), 8);
            }
        }
    }

    // ---- promise 12

    private static void lettersFromEmptyToFull() {
        LeasedViewStore x = new LeasedViewStore(2);
        for (int i = 0; i < 34; i++) {
            due("after " + i + " pings", x.letters(), Math.min(i, 32));
            x.ping(0);
        }
        for (int i = 32; i > 0; i--) {
            due("before a loss", x.letters(), i);
            x.lose(i - 1);
        }
        due("empty", x.letters(), 0);
        x.lose(0);
        x.deliver(0);
        due("empty after refusals", x.letters(), 0);
    }

    // ---- promise 13

    private static void letterOfEachKind() {
        // Each server as primary, with the next one as backup.
        for (int p = 0; p < 5; p++) {
            int b = (p + 1) % 5;
            LeasedViewStore x = new LeasedViewStore(5);
            x.ping(p);
            due("PING", x.letter(0), 1 + 16 * p);
            x.deliver(0);
            due("VIEW", x.letter(0), 2 + 16 * p);
            x.deliver(0);
            pingHeard(x, p);
            pingHeard(x, b);
            x.check();
            pingThroughOnly(x, p);
            due("FILL", x.letter(0), 3 + 16 * b);
            x.deliver(0);
            due("FILLED", x.letter(0), 4 + 16 * p);
            x.deliver(0);
            int c = p % 3;
            x.begin(c, true, 0, 0);
            x.send(c, p);
            due("ASK", x.letter(0), 7 + 16 * p);
            x.deliver(0);
            due("PASS", x.letter(0), 5 + 16 * b);
            x.deliver(0);
            due("PASSED", x.letter(0), 6 + 16 * p);
            x.deliver(0);
            due("ANSWER", x.letter(0), 8 + 16 * c);
        }
    }

    private static void letterNone() {
        LeasedViewStore x = new LeasedViewStore(2);
        for (int waiting = 0; waiting <= 32; waiting += 16) {
            fillPost(x, 1, waiting);
            for (int i : noPlace(waiting)) {
                due("place " + i + " of " + waiting, x.letter(i), -1);
            }
            if (waiting > 0) {
                due("place 0 of " + waiting, x.letter(0), 1 + 16);
                due("the last place of " + waiting, x.letter(waiting - 1), 1 + 16);
            }
        }
        x.lose(31);
        due("place 31 of 31", x.letter(31), -1);
        due("place 30 of 31", x.letter(30), 1 + 16);
    }

    // ---- promise 14

    private static void viewOfServiceAndServers() {
        LeasedViewStore x = alone(3);
        pingThrough(x, 1);
        x.check();
        due("-1, the service", x.view(-1), shown(2, 0, 1));
        due("0, who is not told yet", x.view(0), shown(1, 0, NOBODY));
        due("1, who is not told yet", x.view(1), shown(1, 0, NOBODY));
        due("2, who is in none", x.view(2), 0);
        due("-2, nobody", x.view(-2), -1);
        due("3, nobody", x.view(3), -1);
    }

    private static void viewNumbers() {
        LeasedViewStore x = new LeasedViewStore(5);
        due("no view", x.view(-1), 0);
        due("no view", x.view(4), 0);
        pingThrough(x, 4);
        due("number 1, primary 4, no backup", x.view(-1), 64 + 32 + 7);
        due("the same at the server", x.view(4), 64 + 32 + 7);
        pingHeard(x, 4);
        pingHeard(x, 0);
        x.check();
        due("number 2, primary 4, backup 0", x.view(-1), 128 + 32);
        pingThrough(x, 4);
        due("the same at the primary", x.view(4), 128 + 32);
        due("the same at the backup", x.view(0), 128 + 32);
        pingHeard(x, 4);
        x.advance(130);
        pingHeard(x, 0);
        pingHeard(x, 3);
        x.check();
        due("number 3, primary 0, backup 3", x.view(-1), 192 + 3);
    }

    private static void viewOfNobody() {
        for (int n = 2; n <= 5; n++) {
            LeasedViewStore x = alone(n);
            for (int s : noServer(n)) {
                due("server " + s + " of " + n, x.view(s), s == -1 ? shown(1, 0, NOBODY) : -1);
            }
            due("server 0 of " + n, x.view(0), shown(1, 0, NOBODY));
            due("server N - 1 of " + n, x.view(n - 1), 0);
        }
    }

    // ---- promise 15

    private static void roles() {
        LeasedViewStore x = filling(3);
        due("without a view", x.role(2), 0);
        due("primary, not ready", x.role(0), 2);
        due("neither, in view 1", x.role(1), 6);
        pingThroughOnly(x, 1);
        due("backup, not filled", x.role(1), 5);
        x.deliver(0);
        due("backup, filled", x.role(1), 4);
        due("primary, not ready before the FILLED", x.role(0), 2);
        x.deliver(0);
        due("primary, ready", x.role(0), 1);
        x.begin(0, true, 0, 0);
        x.send(0, 0);
        due("primary, before the ASK", x.role(0), 1);
        x.deliver(0);
        due("primary, pending", x.role(0), 3);
        x.deliver(0);
        due("primary, pending before the PASSED", x.role(0), 3);
        x.deliver(0);
        due("primary, none pending", x.role(0), 1);
        pingThroughOnly(x, 2);
        due("neither, in view 2", x.role(2), 6);
        due("primary alone", alone(2).role(0), 1);
    }

    private static void rolesOfCrashed() {
        crashedRole("without a view", new LeasedViewStore(3), 0, 0);
        crashedRole("primary, ready", running(3), 0, 1);
        crashedRole("primary, not ready", filling(3), 0, 2);
        crashedRole("primary, pending", pending(3, 0, 0, 1), 0, 3);
        crashedRole("backup, filled", running(3), 1, 4);
        LeasedViewStore x = paired(3);
        pingThrough(x, 1);
        crashedRole("backup, not filled", x, 1, 5);
        LeasedViewStore y = running(3);
        pingThrough(y, 2);
        crashedRole("neither", y, 2, 6);
    }

    private static void crashedRole(String what, LeasedViewStore x, int s, int role) {
        due(what, x.role(s), role);
        x.crash(s);
        due(what + ", crashed", x.role(s), role + 8);
    }

    private static void roleOfNobody() {
        for (int n = 2; n <= 5; n++) {
            LeasedViewStore x = alone(n);
            for (int s : noServer(n)) {
                due("server " + s + " of " + n, x.role(s), -1);
            }
            due("server 0 of " + n, x.role(0), 1);
            due("server N - 1 of " + n, x.role(n - 1), 0);
        }
    }

    // ---- promise 16

    private static void cellOfItsOwn() {
        LeasedViewStore x = running(3);
        write(x, 0, 0, 1, 5);
        x.begin(0, true, 1, 6);
        x.send(0, 0);
        x.deliver(0);
        x.deliver(0);
        due("the primary, pending", x.cell(0, 1), 5);
        due("the backup, passed", x.cell(1, 1), 6);
        due("neither", x.cell(2, 1), 0);
        x.crash(0);
        due("crashed", x.cell(0, 1), 5);
        x.advance(130);
        pingThrough(x, 1);
        x.check();
        pingThrough(x, 1);
        write(x, 1, 1, 1, 7);
        due("the new primary", x.cell(1, 1), 7);
        due("the crashed one of the view before", x.cell(0, 1), 5);
    }

    private static void cellNone() {
        for (int n = 2; n <= 5; n++) {
            LeasedViewStore x = alone(n);
            for (int k = 0; k < 4; k++) {
                write(x, 0, 0, k, 50 + k);
            }
            for (int s : noServer(n)) {
                due("server " + s + " of " + n, x.cell(s, 0), 0);
            }
            for (int k : NO_CELL) {
                due("cell " + k, x.cell(0, k), 0);
            }
            due("server and cell", x.cell(-1, 4), 0);
            due("cell 0", x.cell(0, 0), 50);
            due("cell 3", x.cell(0, 3), 53);
        }
    }

    // ---- promise 17

    private static void countOfNobody() {
        for (int n = 2; n <= 5; n++) {
            LeasedViewStore x = alone(n);
            write(x, 0, 0, 0, 1);
            for (int s : noServer(n)) {
                due("server " + s + " of " + n, x.count(s), -1);
            }
            due("server 0 of " + n, x.count(0), 1);
            due("server N - 1 of " + n, x.count(n - 1), 0);
        }
    }

    // ---- promises 18 and 19

    private static void finishedCounts() {
        LeasedViewStore x = alone(2);
        for (int i = 0; i < 4; i++) {
            due("before", x.finished(2), i);
            x.begin(2, i % 2 == 0, 0, i);
            x.send(2, 0);
            due("asked", x.finished(2), i);
            x.deliver(0);
            due("done", x.finished(2), i);
            x.deliver(0);
            due("answered", x.finished(2), i + 1);
        }
        due("another client", x.finished(0), 0);
        due("another client", x.finished(1), 0);
    }

    private static void finishedOfNobody() {
        LeasedViewStore x = alone(2);
        write(x, 0, 0, 0, 1);
        write(x, 2, 0, 0, 1);
        for (int c : NO_CLIENT) {
            due("client " + c, x.finished(c), -1);
        }
        due("client 0", x.finished(0), 1);
        due("client 1", x.finished(1), 0);
        due("client 2", x.finished(2), 1);
    }

    private static void resultStays() {
        LeasedViewStore x = alone(2);
        write(x, 0, 0, 0, 41);
        write(x, 0, 0, 0, 42);
        due("finished latest", x.result(0), 41);
        x.begin(0, false, 0, 0);
        due("another begun", x.result(0), 41);
        x.send(0, 0);
        due("another asked", x.result(0), 41);
        x.deliver(0);
        due("another done", x.result(0), 41);
        x.deliver(0);
        due("another finished", x.result(0), 42);
    }

    private static void resultNone() {
        LeasedViewStore x = alone(2);
        write(x, 0, 0, 0, MIN);
        write(x, 0, 0, 0, MAX);
        for (int c : NO_CLIENT) {
            due("client " + c, x.result(c), 0);
        }
        due("least result", x.result(0), MIN);
        due("none finished", x.result(1), 0);
        x.begin(1, false, 0, 0);
        due("none finished, one under way", x.result(1), 0);
        x.send(1, 0);
        settle(x);
        due("greatest result", x.result(1), MAX);
    }
}
