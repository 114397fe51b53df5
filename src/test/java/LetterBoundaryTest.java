/** A test for each sentence about the eight kinds of letters and about entering a view. */
public final class LetterBoundaryTest extends TestBase {
    public static void main(String[] args) {
        pings();
        views();
        fills();
        filleds();
        passes();
        passeds();
        asks();
        answers();
        entering();
        end();
    }

    private static void pings() {
        String where = "letter 1 PING:";
        sentence(where, "it has arrived now", LetterBoundaryTest::pingArrivesWhenDelivered);
        sentence(where, "If the service has no view, view 1 with s as primary and without a backup is the"
                + " present one, not confirmed", LetterBoundaryTest::pingMakesTheFirstView);
        sentence(where, "if s is the primary of the present view and the confirmed number is its number,"
                + " the view is CONFIRMED", LetterBoundaryTest::pingConfirms);
        sentence(where, "Either way the service sends a VIEW with the present view and the clock that the"
                + " ping bore to s.", LetterBoundaryTest::pingIsAnswered);
        sentence(where, "Never idle, also when the server has crashed since.",
                LetterBoundaryTest::pingOfCrashed);
    }

    private static void views() {
        String where = "letter 2 VIEW:";
        sentence(where, "Idle if its number is less than that of the view the server is in.",
                LetterBoundaryTest::viewLess);
        sentence(where, "If it is greater, the server ENTERS the view.", LetterBoundaryTest::viewGreater);
        sentence(where, "Then, if the server is the primary of its view, its lease becomes the clock that"
                + " the letter bears plus 100", LetterBoundaryTest::leaseOf100);
        sentence(where, "if the server is the primary of its view", LetterBoundaryTest::leaseOfPrimaryOnly);
        sentence(where, "unless it is that already or later", LetterBoundaryTest::leaseNeverShrinks);
    }

    private static void fills() {
        String where = "letter 3 FILL:";
        sentence(where, "Idle if its number is less than that of the view the receiver is in.",
                LetterBoundaryTest::fillLess);
        sentence(where, "If it is greater, the receiver enters the view.",
                LetterBoundaryTest::fillGreater);
        sentence(where, "If it is not filled then, its state becomes that copy and it is FILLED.",
                LetterBoundaryTest::fillOnlyOnce);
        sentence(where, "It sends a FILLED with the number of the view to the primary.",
                LetterBoundaryTest::fillIsAnswered);
    }

    private static void filleds() {
        String where = "letter 4 FILLED:";
        String words = "Idle unless the receiver is in the view with this number, is its primary and is not"
                + " ready; otherwise it is READY.";
        sentence(where, words, LetterBoundaryTest::filledOfThisView);
        sentence(where, words, LetterBoundaryTest::filledOfAnotherView);
        sentence(where, words, LetterBoundaryTest::filledWhenReady);
    }

    private static void passes() {
        String where = "letter 5 PASS:";
        String words = "Idle unless the receiver is in the view with this number, is its backup and is"
                + " filled.";
        sentence(where, words, LetterBoundaryTest::passOfAnotherView);
        sentence(where, words, LetterBoundaryTest::passToNoBackup);
        sentence(where, "If the count of its state is what the letter bears, it does the write.",
                LetterBoundaryTest::passOfThisCount);
        sentence(where, "It sends a PASSED with the number and the count that the letter bore to the"
                + " primary.", LetterBoundaryTest::passIsAnswered);
    }

    private static void passeds() {
        String where = "letter 6 PASSED:";
        String words = "Idle unless the receiver is in the view with this number, is its primary, has a"
                + " pending write, and the count of its state is what the letter bears";
        sentence(where, words, LetterBoundaryTest::passedOfAnotherView);
        sentence(where, words, LetterBoundaryTest::passedToNoPrimary);
        sentence(where, words, LetterBoundaryTest::passedWithoutPending);
        sentence(where, words, LetterBoundaryTest::passedOfAnotherCount);
        sentence(where, "it does the pending write, has none any more, and sends an ANSWER with the number"
                + " and the result of the write to its client", LetterBoundaryTest::passedDoesTheWrite);
    }

    private static void asks() {
        String where = "letter 7 ASK:";
        sentence(where, "Idle unless the receiver is the primary of its view.",
                LetterBoundaryTest::askOfEveryRole);
        sentence(where, "A read is idle if the receiver's clock is not before its lease",
                LetterBoundaryTest::askReadAtTheLease);
        sentence(where, "otherwise an ANSWER with the operation's number and what the cell holds is sent to"
                + " the client", LetterBoundaryTest::askReadIsAnswered);
        sentence(where, "A write whose number is less than the latest write done of that client is idle",
                LetterBoundaryTest::askWriteLess);
        sentence(where, "if it is the latest one, an ANSWER with its number and the result is sent to the"
                + " client", LetterBoundaryTest::askWriteLatest);
        sentence(where, "when the view has no backup, the write is done and an ANSWER with its number and"
                + " the result sent to the client", LetterBoundaryTest::askWriteAlone);
        sentence(where, "otherwise it is idle if the receiver is not ready",
                LetterBoundaryTest::askWriteNotReady);
        sentence(where, "has a pending write", LetterBoundaryTest::askWritePending);
        sentence(where, "else it becomes the pending write and a PASS with the view's number, the count of"
                + " the state and the write is sent to the backup", LetterBoundaryTest::askWritePasses);
    }

    private static void answers() {
        String where = "letter 8 ANSWER:";
        String words = "Idle unless the client has an operation under way with this number";
        sentence(where, words, LetterBoundaryTest::answerOfThisNumber);
        sentence(where, words, LetterBoundaryTest::answerWithoutOperation);
        sentence(where, words, LetterBoundaryTest::answerOfAnotherNumber);
    }

    private static void entering() {
        String where = "entering:";
        sentence(where, "it has no pending write", LetterBoundaryTest::enterDropsPending);
        sentence(where, "as backup is not filled", LetterBoundaryTest::enterIsNotFilled);
        sentence(where, "it is ready if the view has no backup, otherwise it is not ready and sends a FILL"
                + " with the view and its state to the backup", LetterBoundaryTest::enterAsPrimary);
        sentence(where, "If it is the primary", LetterBoundaryTest::enterAsOther);
    }

    // ---- 1 PING

    private static void pingArrivesWhenDelivered() {
        for (int late = 129; late <= 130; late++) {
            LeasedViewStore x = alone(2);
            x.ping(1);
            x.deliver(0);
            x.lose(0);
            x.ping(0);
            x.advance(late);
            due("PING of the primary", x.deliver(0), 1);
            due("check, the other heard " + late + " ago", x.check(), late < 130 ? 2 : 1);
        }
    }

    private static void pingMakesTheFirstView() {
        for (int s = 0; s < 5; s++) {
            int other = (s + 1) % 5;
            LeasedViewStore x = new LeasedViewStore(5);
            x.ping(s);
            x.ping(other);
            due("no view before", x.view(-1), 0);
            due("first PING", x.deliver(0), 1);
            due("view", x.view(-1), shown(1, s, NOBODY));
            due("second PING", x.deliver(0), 1);
            due("view stays", x.view(-1), shown(1, s, NOBODY));
            due("not confirmed", x.check(), 1);
            settle(x);
            due("not confirmed by the VIEW", x.check(), 1);
            pingHeard(x, s);
            due("confirmed by the next ping", x.check(), 2);
            due("view", x.view(-1), shown(2, s, other));
        }
    }

    private static void pingConfirms() {
        // 0 in place of 1: sent before the primary was in its view.
        LeasedViewStore x = new LeasedViewStore(3);
        x.ping(0);
        x.ping(0);
        x.deliver(0);
        x.deliver(0);
        pingHeard(x, 2);
        due("check after a ping with 0", x.check(), 1);
        // The number is right, but the server is not the primary.
        settle(x);
        pingThrough(x, 1);
        pingHeard(x, 1);
        due("check after a ping of another with 1", x.check(), 1);
        pingHeard(x, 0);
        due("check after a ping with 1", x.check(), 2);

        // 1 in place of 2: sent in the view before by the primary of both.
        LeasedViewStore y = paired(3);
        pingHeard(y, 0);
        y.advance(130);
        pingHeard(y, 0);
        due("check after pings with 1 in view 2", y.check(), 2);
        pingThrough(y, 0);
        due("ready, not confirmed", y.check(), 2);
        pingHeard(y, 0);
        due("check after a ping with 2 in view 2", y.check(), 3);

        // 2 in place of 3: the new primary was backup of view 2 and filled.
        LeasedViewStore z = running(3);
        z.advance(130);
        pingHeard(z, 1);
        due("view 3", z.check(), 3);
        pingHeard(z, 1);
        pingHeard(z, 2);
        due("check after a ping with 2 in view 3", z.check(), 3);
        pingThrough(z, 1);
        pingHeard(z, 1);
        due("check after a ping with 3 in view 3", z.check(), 4);

        // Once confirmed, a ping with another number does not take it back.
        LeasedViewStore w = new LeasedViewStore(2);
        pingThrough(w, 0);
        w.ping(0);
        w.ping(1);
        settle(w);
        w.ping(1);
        settle(w);
        due("check after the confirming ping and others", w.check(), 2);

        // The ping that bears 0 is older than the one that confirms, and comes after it.
        LeasedViewStore v = new LeasedViewStore(2);
        v.ping(0);
        v.ping(0);
        v.deliver(0);
        v.deliver(1);
        pingHeard(v, 0);
        due("the late PING", v.deliver(0), 1);
        pingHeard(v, 1);
        due("check after a late ping with 0", v.check(), 2);
    }

    private static void pingIsAnswered() {
        // To the first, to the primary, and to another: the VIEW goes to the one that pinged.
        LeasedViewStore x = new LeasedViewStore(3);
        int[] order = {1, 1, 2, 0};
        for (int s : order) {
            x.ping(s);
            x.deliver(0);
            due("letters", x.letters(), 1);
            due("VIEW to " + s, x.letter(0), 2 + 16 * s);
            x.deliver(0);
            due("view of " + s, x.view(s), shown(1, 1, NOBODY));
        }
        // The view of the arrival: neither that of the sending nor that of the VIEW's delivery.
        LeasedViewStore y = alone(3);
        pingHeard(y, 1);
        y.ping(2);
        y.check();
        y.ping(2);
        y.deliver(0);
        due("VIEW sent after the check", y.deliver(1), 2);
        due("view", y.view(2), shown(2, 0, 1));

        LeasedViewStore z = alone(3);
        pingHeard(z, 1);
        z.ping(2);
        z.deliver(0);
        due("view 2", z.check(), 2);
        due("VIEW sent before the check", z.deliver(0), 2);
        due("view", z.view(2), shown(1, 0, NOBODY));

        // The clock is that of the sending, with the skew of then.
        LeasedViewStore w = new LeasedViewStore(2);
        w.skew(0, 7);
        w.advance(20);
        w.ping(0);
        w.skew(0, -9);
        w.advance(30);
        w.deliver(0);
        w.advance(15);
        w.deliver(0);
        w.skew(0, 0);
        w.advance(61);
        due("read at 126, the lease being 20 + 7 + 100", readAt(w, 0), 7);
        w.advance(1);
        due("read at 127", readAt(w, 0), 15);
    }

    private static void pingOfCrashed() {
        // The first ping of all.
        LeasedViewStore x = new LeasedViewStore(2);
        x.ping(1);
        x.crash(1);
        due("PING", x.deliver(0), 1);
        due("view", x.view(-1), shown(1, 1, NOBODY));
        due("VIEW", x.letter(0), 2 + 16);

        // It confirms.
        LeasedViewStore y = new LeasedViewStore(2);
        pingThrough(y, 0);
        pingHeard(y, 1);
        y.ping(0);
        y.crash(0);
        due("not confirmed", y.check(), 1);
        due("PING", y.deliver(0), 1);
        due("confirmed", y.check(), 2);

        // It makes fresh.
        LeasedViewStore z = alone(2);
        z.ping(1);
        z.crash(1);
        due("not heard", z.check(), 1);
        due("PING", z.deliver(0), 1);
        due("heard", z.check(), 2);
        due("view", z.view(-1), shown(2, 0, 1));
    }

    // ---- 2 VIEW

    private static void viewLess() {
        // Less by one: the lease stays too, although the old letter bears a later clock.
        LeasedViewStore x = alone(2);
        x.skew(0, 10);
        x.ping(0);
        x.deliver(0);
        x.skew(0, 0);
        pingHeard(x, 1);
        x.check();
        pingThroughOnly(x, 0);
        due("view 2", x.view(0), shown(2, 0, 1));
        due("the FILL behind it", x.letter(1), 3 + 16);
        due("VIEW of view 1 in view 2", x.deliver(0), 10);
        due("view stays", x.view(0), shown(2, 0, 1));
        due("role stays", x.role(0), 2);
        due("nothing is sent", x.letters(), 1);
        x.lose(0);
        x.advance(99);
        due("read at 99", readAt(x, 0), 7);
        x.advance(1);
        due("read at 100, the lease of view 2", readAt(x, 0), 15);

        // To a backup that is filled.
        LeasedViewStore y = alone(3);
        y.ping(1);
        y.deliver(0);
        y.check();
        pingThroughOnly(y, 0);
        y.deliver(1);
        y.deliver(1);
        due("filled", y.role(1), 4);
        due("VIEW of view 1 in view 2", y.deliver(0), 10);
        due("filled still", y.role(1), 4);
        due("view", y.view(1), shown(2, 0, 1));

        // Equal: not idle, and nothing is entered anew.
        LeasedViewStore z = pending(2, 0, 0, 3);
        z.ping(0);
        deliverLast(z);
        due("VIEW of view 2 in view 2", deliverLast(z), 2);
        due("pending still", z.role(0), 3);
        due("no FILL", z.letters(), 1);
        z.ping(1);
        deliverLast(z);
        due("VIEW of view 2 to its backup", deliverLast(z), 2);
        due("filled still", z.role(1), 4);
    }

    private static void viewGreater() {
        // By one: 0 to 1, 1 to 2.
        LeasedViewStore x = new LeasedViewStore(3);
        pingThrough(x, 0);
        due("0 to 1", x.view(0), shown(1, 0, NOBODY));
        due("ready", x.role(0), 1);
        pingThrough(x, 0);
        pingHeard(x, 1);
        x.check();
        pingThroughOnly(x, 0);
        due("1 to 2", x.view(0), shown(2, 0, 1));
        due("not ready", x.role(0), 2);

        // By two, and from none to 3.
        LeasedViewStore y = running(4);
        pingThrough(y, 2);
        due("server 2 in view 2", y.view(2), shown(2, 0, 1));
        y.advance(130);
        pingHeard(y, 0);
        due("view 3", y.check(), 3);
        pingThrough(y, 0);
        pingThrough(y, 0);
        pingHeard(y, 3);
        due("view 4", y.check(), 4);
        pingThrough(y, 2);
        due("2 to 4", y.view(2), shown(4, 0, 3));
        pingThrough(y, 3);
        due("0 to 4", y.view(3), shown(4, 0, 3));
    }

    private static void leaseOf100() {
        int[] starts = {0, 1, 400};
        for (int start : starts) {
            // On entering.
            LeasedViewStore x = new LeasedViewStore(2);
            x.advance(start);
            pingThrough(x, 0);
            leaseIs(x, 0, start, start + 100);
            // In the same view.
            LeasedViewStore y = alone(2);
            y.advance(start);
            pingThrough(y, 0);
            leaseIs(y, 0, start, start + 100);
        }
        // The least lease there is: the one at first is well before it.
        LeasedViewStore z = new LeasedViewStore(2);
        z.skew(0, -10);
        pingThrough(z, 0);
        z.skew(0, 0);
        leaseIs(z, 0, 0, 90);
    }

    /** The skew is 0 and the time is now: a read is answered at lease - 1, and idle from then on. */
    private static void leaseIs(LeasedViewStore x, int s, int now, int lease) {
        x.advance(lease - 1 - now);
        due("read at " + (lease - 1), readAt(x, s), 7);
        x.advance(1);
        due("read at " + lease, readAt(x, s), 15);
        x.advance(1);
        due("read at " + (lease + 1), readAt(x, s), 15);
    }

    /** The clock that a backup's VIEW bears is later than the one that it enters view 3 with. */
    private static void leaseOfPrimaryOnly() {
        LeasedViewStore x = running(2);
        x.ping(1);
        x.advance(60);
        pingThroughOnly(x, 1);
        x.advance(70);
        due("view 3", x.check(), 3);
        x.deliver(0);
        due("VIEW", x.deliver(0), 2);
        due("primary", x.role(1), 1);
        due("read at 130 with the lease of time 0", readAt(x, 1), 15);
        x.skew(1, -10);
        due("read at clock 120", readAt(x, 1), 15);
        pingThrough(x, 1);
        x.skew(1, 0);
        leaseIs(x, 1, 130, 220);
    }

    private static void leaseNeverShrinks() {
        // The first VIEW gives 110; the second would give 109, 110 or 111.
        for (int o = 9; o <= 10; o++) {
            LeasedViewStore x = new LeasedViewStore(2);
            x.skew(0, 10);
            pingThrough(x, 0);
            x.skew(0, o);
            pingThrough(x, 0);
            x.skew(0, 0);
            leaseIs(x, 0, 0, 110);
        }
        LeasedViewStore y = new LeasedViewStore(2);
        y.skew(0, 10);
        pingThrough(y, 0);
        y.advance(1);
        pingThrough(y, 0);
        y.skew(0, 0);
        leaseIs(y, 0, 1, 111);

        // A late VIEW with a clock long ago, in the same view.
        LeasedViewStore z = alone(2);
        z.ping(0);
        z.deliver(0);
        z.advance(80);
        pingThroughOnly(z, 0);
        due("late VIEW", z.deliver(0), 2);
        leaseIs(z, 0, 80, 180);

        // A late ping whose VIEW is of a greater view: the lease of the view before is later.
        LeasedViewStore w = alone(2);
        w.ping(0);
        w.advance(50);
        pingThroughOnly(w, 0);
        pingHeard(w, 1);
        due("view 2", w.check(), 2);
        w.deliver(0);
        due("VIEW of view 2", w.deliver(0), 2);
        due("entered", w.view(0), shown(2, 0, 1));
        w.lose(0);
        leaseIs(w, 0, 50, 150);
    }

    // ---- 3 FILL

    /** In view 2 a FILL from before the first write waits; server 1 is filled by another and goes on. */
    private static LeasedViewStore lateFill(int n) {
        LeasedViewStore x = filling(n);
        x.push(0);
        x.deliver(1);
        x.deliver(1);
        x.begin(0, true, 3, 9);
        x.send(0, 0);
        for (int i = 0; i < 4; i++) {
            x.deliver(1);
        }
        pingThroughOnly(x, 0);
        return x;
    }

    private static void fillLess() {
        // Server 1 is left out of view 3.
        LeasedViewStore x = lateFill(3);
        due("the write is done", x.cell(1, 3), 9);
        x.advance(130);
        pingThroughOnly(x, 0);
        pingThroughOnly(x, 2);
        due("view 3", x.check(), 3);
        pingThroughOnly(x, 1);
        due("server 1 is out", x.role(1), 6);
        due("FILL of view 2 in view 3", x.deliver(0), 11);
        due("role stays", x.role(1), 6);
        due("view stays", x.view(1), shown(3, 0, 2));
        due("state stays", x.cell(1, 3), 9);
        due("count stays", x.count(1), 1);
        due("nothing is sent", x.letters(), 0);

        // Server 1 is the primary of view 3.
        LeasedViewStore y = lateFill(2);
        promoteBackup(y, NOBODY);
        due("FILL of view 2 to the primary of view 3", y.deliver(0), 11);
        due("role stays", y.role(1), 1);
        due("state stays", y.cell(1, 3), 9);

        // Server 1 is backup again, of view 4, and not filled: less by two.
        LeasedViewStore z = lateFill(2);
        keepPrimary(z, NOBODY);
        pingThroughOnly(z, 0);
        pingHeard(z, 1);
        due("view 4", z.check(), 4);
        pingThroughOnly(z, 1);
        due("backup, not filled", z.role(1), 5);
        due("FILL of view 2 in view 4", z.deliver(0), 11);
        due("not filled still", z.role(1), 5);
        due("state stays", z.cell(1, 3), 9);
    }

    private static void fillGreater() {
        // From no view at all.
        LeasedViewStore x = alone(2);
        write(x, 0, 0, 1, 6);
        pingHeard(x, 1);
        x.check();
        pingThroughOnly(x, 0);
        due("no view", x.view(1), 0);
        due("FILL", x.deliver(0), 3);
        due("0 to 2", x.view(1), shown(2, 0, 1));
        due("filled", x.role(1), 4);
        due("state", x.cell(1, 1), 6);

        // From the view before.
        LeasedViewStore y = filling(2);
        due("view 1", y.view(1), shown(1, 0, NOBODY));
        due("FILL", y.deliver(0), 3);
        due("1 to 2", y.view(1), shown(2, 0, 1));

        // Equal: the receiver has entered by a VIEW already.
        LeasedViewStore z = filling(2);
        pingThroughOnly(z, 1);
        due("not filled", z.role(1), 5);
        due("FILL", z.deliver(0), 3);
        due("filled", z.role(1), 4);
        due("view", z.view(1), shown(2, 0, 1));

        // A primary that is behind enters as backup, and its pending write is gone.
        LeasedViewStore w = pending(2, 0, 0, 3);
        w.lose(0);
        w.advance(130);
        pingThrough(w, 1);
        w.check();
        pingThrough(w, 1);
        pingThrough(w, 1);
        pingHeard(w, 0);
        due("view 4", w.check(), 4);
        pingThroughOnly(w, 1);
        due("pending in view 2", w.role(0), 3);
        due("FILL", w.deliver(0), 3);
        due("2 to 4", w.view(0), shown(4, 1, 0));
        due("filled", w.role(0), 4);
    }

    /** A second FILL of the view that comes after a PASS: what was passed must stay. */
    private static void fillOnlyOnce() {
        LeasedViewStore x = lateFill(2);
        due("count", x.count(1), 1);
        due("second FILL", x.deliver(0), 3);
        due("role", x.role(1), 4);
        due("state stays", x.cell(1, 3), 9);
        due("count stays", x.count(1), 1);
        x.begin(0, true, 3, 10);
        x.send(0, 0);
        settle(x);
        due("result", x.result(0), 9);
        due("backup", x.cell(1, 3), 10);

        // The first FILL makes the whole state the copy: each cell ..
        LeasedViewStore z = alone(3);
        for (int k = 0; k < 4; k++) {
            write(z, k % 3, 0, k, 20 + k);
        }
        pingHeard(z, 1);
        z.check();
        pingThrough(z, 0);
        for (int k = 0; k < 4; k++) {
            due("cell " + k, z.cell(1, k), 20 + k);
        }
        due("count", z.count(1), 4);

        // .. and the latest writes with their results.
        LeasedViewStore y = alone(3);
        write(y, 0, 0, 0, 4);
        write(y, 0, 0, 0, 5);
        askWrite(y, 0, 0, 0, 6);
        y.lose(0);
        pingHeard(y, 1);
        y.check();
        pingThrough(y, 0);
        pingHeard(y, 0);
        due("cell", y.cell(1, 0), 6);
        due("count", y.count(1), 3);
        y.advance(130);
        pingHeard(y, 1);
        due("view 3", y.check(), 3);
        pingThrough(y, 1);
        y.send(0, 1);
        due("the write that was done", y.deliver(0), 7);
        due("is not done again", y.count(1), 3);
        due("ANSWER", y.deliver(0), 8);
        due("result", y.result(0), 5);
    }

    private static void fillIsAnswered() {
        LeasedViewStore x = filling(2);
        x.push(0);
        due("first FILL", x.deliver(0), 3);
        due("FILLED", x.letter(1), 4);
        due("second FILL", x.deliver(0), 3);
        due("FILLED", x.letter(1), 4);
        due("letters", x.letters(), 2);
        due("first FILLED", x.deliver(0), 4);
        due("second FILLED", x.deliver(0), 12);

        // The second alone does it when the first FILLED is lost.
        LeasedViewStore y = filling(2);
        y.deliver(0);
        y.lose(0);
        y.push(0);
        due("FILL to one that is filled", y.deliver(0), 3);
        due("its FILLED", y.deliver(0), 4);
        due("ready", y.role(0), 1);

        // To a primary other than server 0.
        LeasedViewStore z = new LeasedViewStore(4);
        pingThrough(z, 3);
        pingHeard(z, 3);
        pingHeard(z, 2);
        z.check();
        pingThroughOnly(z, 3);
        due("FILL", z.letter(0), 3 + 16 * 2);
        due("FILL", z.deliver(0), 3);
        due("FILLED", z.letter(0), 4 + 16 * 3);

        // To the primary of that view, also when the service has gone on to the next.
        LeasedViewStore w = lateFill(2);
        w.advance(130);
        pingHeard(w, 1);
        due("view 3", w.check(), 3);
        due("server 1 is the primary there", w.view(-1), shown(3, 1, NOBODY));
        due("FILL of view 2", w.deliver(0), 3);
        due("FILLED to server 0", w.letter(0), 4);
    }

    // ---- 4 FILLED

    private static void filledOfThisView() {
        LeasedViewStore x = filling(2);
        x.deliver(0);
        due("not ready", x.role(0), 2);
        due("FILLED", x.deliver(0), 4);
        due("ready", x.role(0), 1);
    }

    private static void filledOfAnotherView() {
        // The primary of both views is not ready in view 3, with the FILLED of view 2 on its way.
        LeasedViewStore x = filling(3);
        x.push(0);
        x.deliver(0);
        x.deliver(0);
        x.deliver(0);
        due("ready in view 2", x.role(0), 1);
        pingThroughOnly(x, 0);
        keepPrimary(x, 2);
        due("not ready in view 3", x.role(0), 2);
        due("FILLED of view 2", x.deliver(0), 12);
        due("not ready still", x.role(0), 2);
        due("FILL of view 3", x.deliver(0), 3);
        due("FILLED of view 3", x.deliver(0), 4);
        due("ready", x.role(0), 1);

        // The old primary is left out of view 3 when the FILLED of view 2 comes.
        LeasedViewStore y = filling(2);
        y.push(0);
        y.deliver(0);
        y.deliver(0);
        y.deliver(0);
        pingThroughOnly(y, 0);
        promoteBackup(y, NOBODY);
        pingThroughOnly(y, 0);
        due("neither", y.role(0), 6);
        due("FILLED of view 2", y.deliver(0), 12);
        due("neither still", y.role(0), 6);
    }

    private static void filledWhenReady() {
        LeasedViewStore x = filling(2);
        x.push(0);
        x.deliver(0);
        x.deliver(0);
        due("first", x.deliver(0), 4);
        due("second", x.deliver(0), 12);
        due("ready", x.role(0), 1);

        // With a pending write it is ready as well.
        LeasedViewStore y = filling(2);
        y.push(0);
        y.deliver(0);
        y.deliver(0);
        y.deliver(0);
        askWrite(y, 0, 0, 0, 3);
        due("pending", y.role(0), 3);
        due("FILLED", y.deliver(0), 12);
        due("pending still", y.role(0), 3);
    }

    // ---- 5 PASS

    private static void passOfAnotherView() {
        // Equal.
        LeasedViewStore x = pending(2, 0, 0, 4);
        due("PASS of view 2 in view 2", x.deliver(0), 5);
        due("done", x.count(1), 1);

        // Less by two: backup of view 4, filled, with the count that the letter bears.
        LeasedViewStore y = pending(2, 0, 0, 4);
        keepPrimary(y, NOBODY);
        pingThroughOnly(y, 0);
        pingHeard(y, 1);
        due("view 4", y.check(), 4);
        pingThroughOnly(y, 0);
        y.deliver(1);
        y.deliver(1);
        due("backup of view 4, filled", y.role(1), 4);
        due("PASS of view 2", y.deliver(0), 13);
        due("not done", y.count(1), 0);
        due("nothing is sent", y.letters(), 0);

        // The same, but not filled.
        LeasedViewStore z = pending(2, 0, 0, 4);
        keepPrimary(z, NOBODY);
        pingThroughOnly(z, 0);
        pingHeard(z, 1);
        z.check();
        pingThroughOnly(z, 1);
        due("backup of view 4, not filled", z.role(1), 5);
        due("PASS of view 2", z.deliver(0), 13);
        due("not done", z.count(1), 0);
    }

    private static void passToNoBackup() {
        // The primary of view 3.
        LeasedViewStore x = pending(2, 0, 0, 4);
        promoteBackup(x, NOBODY);
        due("primary of view 3", x.role(1), 1);
        due("PASS of view 2", x.deliver(0), 13);
        due("not done", x.count(1), 0);
        due("nothing is sent", x.letters(), 0);

        // Neither in view 3.
        LeasedViewStore y = pending(3, 0, 0, 4);
        y.advance(130);
        pingThroughOnly(y, 0);
        pingHeard(y, 2);
        y.check();
        pingThroughOnly(y, 1);
        due("neither in view 3", y.role(1), 6);
        due("PASS of view 2", y.deliver(0), 13);
        due("not done", y.count(1), 0);
    }

    private static void passOfThisCount() {
        LeasedViewStore x = pending(2, 0, 0, 4);
        x.push(0);
        due("count before", x.count(1), 0);
        due("PASS of count 0 at count 0", x.deliver(0), 5);
        due("done", x.count(1), 1);
        due("PASS of count 0 at count 1", x.deliver(0), 5);
        due("not done again", x.count(1), 1);
        settle(x);

        // A PASS that is one behind would bring an old value back.
        LeasedViewStore y = pending(2, 0, 0, 4);
        y.push(0);
        y.deliver(1);
        y.deliver(1);
        y.deliver(1);
        askWrite(y, 1, 0, 0, 8);
        due("PASS of count 1 at count 1", y.deliver(1), 5);
        due("cell", y.cell(1, 0), 8);
        due("PASS of count 0 at count 2", y.deliver(0), 5);
        due("cell stays", y.cell(1, 0), 8);
        due("count stays", y.count(1), 2);

        // Done is done with all that belongs to it: as primary, the backup knows it as the latest write.
        LeasedViewStore z = running(2);
        write(z, 0, 0, 0, 3);
        askWrite(z, 0, 0, 0, 4);
        z.deliver(0);
        z.lose(0);
        promoteBackup(z, NOBODY);
        z.send(0, 1);
        due("asked again", z.deliver(0), 7);
        due("done once", z.count(1), 2);
        due("ANSWER", z.deliver(0), 8);
        due("result", z.result(0), 3);
    }

    private static void passIsAnswered() {
        // The PASSED of a PASS that is not done again still finishes the write: it bears the old count.
        LeasedViewStore x = pending(2, 0, 0, 4);
        x.deliver(0);
        due("PASSED", x.letter(0), 6);
        x.lose(0);
        x.push(0);
        due("PASS again", x.deliver(0), 5);
        due("PASSED", x.letter(0), 6);
        due("letters", x.letters(), 1);
        due("it does the write", x.deliver(0), 6);
        due("count", x.count(0), 1);

        // The PASSED of an old PASS does not finish the next write.
        LeasedViewStore y = pending(2, 0, 0, 4);
        y.push(0);
        y.deliver(1);
        y.deliver(1);
        y.deliver(1);
        askWrite(y, 1, 0, 0, 8);
        due("old PASS at the count of the next", y.deliver(0), 5);
        due("its PASSED", y.deliver(1), 14);
        due("pending still", y.role(0), 3);
        due("count", y.count(0), 1);

        // Nor when the backup has done the next one already.
        LeasedViewStore z = pending(2, 0, 0, 4);
        z.push(0);
        z.deliver(1);
        z.deliver(1);
        z.deliver(1);
        askWrite(z, 1, 0, 0, 8);
        due("PASS of count 1", z.deliver(1), 5);
        z.lose(1);
        due("old PASS of count 0 at count 2", z.deliver(0), 5);
        due("its PASSED", z.deliver(0), 14);
        due("pending still", z.role(0), 3);

        // To the primary of that view, also when the service has gone on to the next.
        LeasedViewStore w = pending(2, 0, 0, 4);
        w.advance(130);
        pingHeard(w, 1);
        due("view 3", w.check(), 3);
        due("server 1 is the primary there", w.view(-1), shown(3, 1, NOBODY));
        due("PASS of view 2", w.deliver(0), 5);
        due("PASSED to server 0", w.letter(0), 6);
        due("PASSED", w.deliver(0), 6);
    }

    // ---- 6 PASSED

    private static void passedOfAnotherView() {
        // The primary has a pending write of view 3 at the same count.
        LeasedViewStore x = pending(3, 0, 0, 4);
        x.deliver(0);
        keepPrimary(x, 2);
        x.deliver(1);
        x.deliver(1);
        askWrite(x, 1, 0, 1, 9);
        due("pending in view 3", x.role(0), 3);
        due("PASSED of view 2", x.deliver(0), 14);
        due("pending still", x.role(0), 3);
        due("count", x.count(0), 0);
        due("no ANSWER", x.letters(), 1);
        due("PASS of view 3", x.deliver(0), 5);
        due("PASSED of view 3", x.deliver(0), 6);
        due("count", x.count(0), 1);
    }

    private static void passedToNoPrimary() {
        LeasedViewStore x = pending(2, 0, 0, 4);
        x.deliver(0);
        promoteBackup(x, NOBODY);
        pingThroughOnly(x, 0);
        due("neither in view 3", x.role(0), 6);
        due("PASSED of view 2", x.deliver(0), 14);
        due("count", x.count(0), 0);
        due("no ANSWER", x.letters(), 0);
    }

    private static void passedWithoutPending() {
        LeasedViewStore x = pending(2, 0, 0, 4);
        x.push(0);
        x.deliver(0);
        x.deliver(0);
        due("with a pending write", x.deliver(0), 6);
        due("without one", x.deliver(0), 14);
        due("count", x.count(0), 1);
        due("one ANSWER", x.letters(), 1);

        // Alone in view 3 with the same count, the pending write dropped.
        LeasedViewStore y = pending(2, 0, 0, 4);
        y.deliver(0);
        keepPrimary(y, NOBODY);
        due("alone", y.view(0), shown(3, 0, NOBODY));
        due("PASSED of view 2", y.deliver(0), 14);
        due("count", y.count(0), 0);
    }

    private static void passedOfAnotherCount() {
        LeasedViewStore x = pending(2, 0, 0, 4);
        x.push(0);
        x.deliver(0);
        x.deliver(0);
        due("PASSED of count 0 at count 0", x.deliver(0), 6);
        due("ANSWER", x.deliver(1), 8);
        askWrite(x, 1, 0, 1, 9);
        due("pending at count 1", x.role(0), 3);
        due("PASSED of count 0 at count 1", x.deliver(0), 14);
        due("pending still", x.role(0), 3);
        due("PASS", x.deliver(0), 5);
        due("PASSED of count 1 at count 1", x.deliver(0), 6);
        due("count", x.count(0), 2);
    }

    private static void passedDoesTheWrite() {
        LeasedViewStore x = running(2);
        write(x, 0, 0, 2, 11);
        write(x, 0, 0, 1, 12);
        askWrite(x, 2, 0, 2, 22);
        due("not done yet", x.cell(0, 2), 11);
        x.deliver(0);
        due("PASSED", x.deliver(0), 6);
        due("done", x.cell(0, 2), 22);
        due("count", x.count(0), 3);
        due("none pending", x.role(0), 1);
        due("nothing to push", x.push(0), false);
        due("ANSWER to its client", x.letter(0), 8 + 32);
        due("ANSWER", x.deliver(0), 8);
        due("result", x.result(2), 11);
        due("the other's result", x.result(0), 0);
    }

    // ---- 7 ASK

    private static void asked(LeasedViewStore x, String role, int s, boolean primary) {
        x.begin(0, true, 0, 5);
        int letters = x.letters();
        due("read by " + role, readAt(x, s), primary ? 7 : 15);
        x.send(0, s);
        due("write by " + role, deliverLast(x), primary ? 7 : 15);
        due("letters, " + role, x.letters(), primary ? letters + 1 : letters);
    }

    private static void askOfEveryRole() {
        asked(new LeasedViewStore(2), "one without a view", 0, false);
        asked(alone(2), "a primary alone", 0, true);
        asked(running(2), "a primary with a backup", 0, true);
        asked(running(2), "a filled backup", 1, false);
        LeasedViewStore x = filling(3);
        pingThroughOnly(x, 1);
        asked(x, "a backup that is not filled", 1, false);
        LeasedViewStore y = running(3);
        pingThrough(y, 2);
        asked(y, "neither", 2, false);
        // A backup that has done the write, which a primary would answer.
        LeasedViewStore w = pending(2, 0, 0, 5);
        w.deliver(0);
        w.send(0, 1);
        due("the latest write, by a backup", deliverLast(w), 15);
        due("no ANSWER", w.letters(), 1);
        // An old primary that has heard of view 3, and one that has not.
        LeasedViewStore z = running(2);
        z.advance(50);
        z.ping(1);
        z.deliver(0);
        z.lose(0);
        z.advance(80);
        due("view 3", z.check(), 3);
        z.begin(1, true, 0, 5);
        z.send(1, 0);
        due("write by the old primary", deliverLast(z), 7);
        due("the PASS reaches the backup", z.deliver(0), 5);
        due("the old primary does it", z.deliver(0), 6);
        z.lose(0);
        pingThrough(z, 0);
        due("neither", z.role(0), 6);
        z.send(1, 0);
        due("the latest write, by the one left out", z.deliver(0), 15);
        asked(z, "the one left out", 0, false);
    }

    private static void askReadAtTheLease() {
        int[] skews = {-10, 0, 10};
        for (int o : skews) {
            LeasedViewStore x = alone(2);
            x.skew(0, o);
            x.advance(98 - o);
            due("clock 98, skew " + o, readAt(x, 0), 7);
            x.advance(1);
            due("clock 99, skew " + o, readAt(x, 0), 7);
            x.advance(1);
            due("clock 100, skew " + o, readAt(x, 0), 15);
            x.advance(1);
            due("clock 101, skew " + o, readAt(x, 0), 15);
            due("no ANSWER", x.letters(), 0);
        }
        // It is the clock of the delivery, not of the sending.
        LeasedViewStore y = alone(2);
        y.begin(0, false, 0, 0);
        y.send(0, 0);
        y.send(0, 0);
        y.advance(99);
        due("delivered at 99", y.deliver(0), 7);
        y.advance(1);
        due("delivered at 100", y.deliver(0), 15);
        // The clock goes back before the lease.
        y.skew(0, -1);
        due("delivered at 100, clock 99", readAt(y, 0), 7);
        // A write needs no lease, even long after.
        y.advance(1000);
        y.begin(1, true, 0, 6);
        y.send(1, 0);
        due("write without a lease", deliverLast(y), 7);
    }

    private static void askReadIsAnswered() {
        LeasedViewStore x = alone(2);
        for (int k = 0; k < 4; k++) {
            write(x, 0, 0, k, 10 + k);
        }
        for (int k = 0; k < 4; k++) {
            x.begin(1, false, k, 99);
            x.send(1, 0);
            due("ASK", x.deliver(0), 7);
            due("ANSWER", x.letter(0), 8 + 16);
            due("ANSWER", x.deliver(0), 8);
            due("result of cell " + k, x.result(1), 10 + k);
        }
        due("a read is no write", x.count(0), 4);

        // What the cell holds when the ASK comes, not when it was sent nor when the ANSWER comes.
        LeasedViewStore y = alone(2);
        y.begin(1, false, 0, 0);
        y.send(1, 0);
        due("write", askWrite(y, 0, 0, 0, 3), 7);
        due("read", y.deliver(0), 7);
        due("ANSWER to the write", y.deliver(0), 8);
        write(y, 0, 0, 0, 4);
        due("result", y.result(1), 3);

        // An old read of a client is answered too; its ANSWER is idle then.
        LeasedViewStore z = alone(2);
        z.begin(0, false, 0, 0);
        z.send(0, 0);
        z.send(0, 0);
        z.deliver(0);
        z.deliver(1);
        askWrite(z, 0, 0, 0, 1);
        due("read with a number less than the latest write", z.deliver(0), 7);
        due("ANSWER to the write", z.deliver(0), 8);
        due("ANSWER to the old read", z.deliver(0), 16);

        // A primary that is not ready, and one with a pending write, answer reads with their own state.
        LeasedViewStore w = filling(2);
        due("not ready", readAt(w, 0), 7);
        LeasedViewStore v = pending(2, 0, 0, 4);
        v.begin(1, false, 0, 0);
        v.send(1, 0);
        due("pending", v.deliver(1), 7);
        due("ANSWER", v.deliver(1), 8);
        due("result", v.result(1), 0);
    }

    /** Client 0 has done write 2; ASKs with its writes 1 and 2 wait, in this order. */
    private static LeasedViewStore oldAsks(LeasedViewStore x) {
        x.begin(0, true, 0, 5);
        x.send(0, 0);
        x.send(0, 0);
        x.deliver(1);
        for (int i = 0; i < 3 && x.finished(0) == 0; i++) {
            x.deliver(1);
        }
        x.begin(0, true, 0, 6);
        x.send(0, 0);
        x.send(0, 0);
        x.deliver(2);
        for (int i = 0; i < 3 && x.finished(0) == 1; i++) {
            x.deliver(2);
        }
        return x;
    }

    private static void askWriteLess() {
        LeasedViewStore x = oldAsks(alone(2));
        due("two done", x.count(0), 2);
        due("write 1 when 2 is the latest", x.deliver(0), 15);
        due("not done", x.cell(0, 0), 6);
        due("no ANSWER", x.letters(), 1);
        due("write 2 when 2 is the latest", x.deliver(0), 7);
        due("not done again", x.count(0), 2);
        due("write 3 when 2 is the latest", askWrite(x, 0, 0, 0, 7), 7);
        due("done", x.count(0), 3);

        // With a backup.
        LeasedViewStore y = oldAsks(running(2));
        due("two done", y.count(1), 2);
        due("write 1 when 2 is the latest", y.deliver(0), 15);
        due("none pending", y.role(0), 1);
        due("nothing is sent", y.letters(), 1);

        // The latest of another client does not count, nor do reads.
        LeasedViewStore z = alone(2);
        for (int i = 0; i < 3; i++) {
            z.begin(1, false, 0, 0);
            z.send(1, 0);
            settle(z);
        }
        write(z, 1, 0, 0, 3);
        due("write 1 when 4 is another's latest", askWrite(z, 0, 0, 0, 4), 7);
        due("done", z.cell(0, 0), 4);
    }

    private static void askWriteLatest() {
        // Alone.
        LeasedViewStore x = alone(2);
        write(x, 0, 0, 0, 5);
        x.begin(0, true, 0, 6);
        x.send(0, 0);
        x.send(0, 0);
        x.deliver(0);
        x.lose(1);
        write(x, 1, 0, 0, 9);
        due("the write came again, first", x.finished(0), 2);
        due("with its own result", x.result(0), 5);
        due("done once", x.count(0), 3);
        due("the other's write stays", x.cell(0, 0), 9);

        // Its number counts the reads as well: write 3 after read 2.
        LeasedViewStore v = alone(2);
        write(v, 0, 0, 0, 5);
        v.begin(0, false, 0, 0);
        v.send(0, 0);
        settle(v);
        v.begin(0, true, 0, 6);
        v.send(0, 0);
        v.send(0, 0);
        due("write 3", v.deliver(0), 7);
        due("write 3 again", v.deliver(0), 7);
        due("done once", v.count(0), 2);
        due("ANSWER", v.deliver(0), 8);
        due("result", v.result(0), 5);

        // While another write is pending, it is answered all the same.
        LeasedViewStore y = running(2);
        askWrite(y, 0, 0, 0, 5);
        y.deliver(0);
        y.deliver(0);
        y.lose(0);
        askWrite(y, 1, 0, 0, 6);
        due("pending", y.role(0), 3);
        y.send(0, 0);
        due("the latest while another is pending", y.deliver(1), 7);
        due("ANSWER", y.deliver(1), 8);
        due("result", y.result(0), 0);

        // And while the primary is not ready.
        LeasedViewStore z = alone(2);
        askWrite(z, 0, 0, 0, 5);
        z.lose(0);
        pingHeard(z, 1);
        z.check();
        pingThroughOnly(z, 0);
        due("not ready", z.role(0), 2);
        z.send(0, 0);
        due("the latest while not ready", z.deliver(1), 7);
        due("ANSWER", z.deliver(1), 8);
        due("done once", z.count(0), 1);

        // After the lease as well.
        LeasedViewStore w = alone(2);
        askWrite(w, 0, 0, 0, 5);
        w.lose(0);
        w.advance(1000);
        w.send(0, 0);
        due("the latest after the lease", w.deliver(0), 7);
        due("done once", w.count(0), 1);
        due("ANSWER", w.deliver(0), 8);
        due("result", w.result(0), 0);
    }

    private static void askWriteAlone() {
        LeasedViewStore x = alone(2);
        write(x, 0, 0, 3, 5);
        due("ASK", askWrite(x, 1, 0, 3, 6), 7);
        due("done at once", x.cell(0, 3), 6);
        due("count", x.count(0), 2);
        due("no pending write", x.role(0), 1);
        due("the only letter", x.letters(), 1);
        due("ANSWER", x.letter(0), 8 + 16);
        due("ANSWER", x.deliver(0), 8);
        due("result", x.result(1), 5);

        // With a backup it is not done at once.
        LeasedViewStore y = running(2);
        due("ASK", askWrite(y, 1, 0, 3, 6), 7);
        due("not done", y.cell(0, 3), 0);
        due("PASS", y.letter(0), 5 + 16);
    }

    private static void askWriteNotReady() {
        LeasedViewStore x = filling(2);
        due("not ready", askWrite(x, 0, 0, 0, 5), 15);
        due("role", x.role(0), 2);
        due("letters", x.letters(), 1);
        x.deliver(0);
        x.deliver(0);
        due("no pending write", x.role(0), 1);
        x.send(0, 0);
        due("ready", x.deliver(0), 7);
        due("role", x.role(0), 3);
    }

    private static void askWritePending() {
        LeasedViewStore x = pending(2, 0, 0, 5);
        due("another write while one is pending", askWrite(x, 1, 0, 1, 6), 15);
        x.send(0, 0);
        due("the same write while it is pending", x.deliver(1), 15);
        due("letters", x.letters(), 1);
        x.deliver(0);
        x.deliver(0);
        due("the pending one is done", x.cell(0, 0), 5);
        due("the other is not", x.cell(0, 1), 0);
        x.send(1, 0);
        due("another write when none is pending", x.deliver(1), 7);
        due("role", x.role(0), 3);
    }

    private static void askWritePasses() {
        LeasedViewStore x = running(3);
        write(x, 0, 0, 0, 1);
        write(x, 0, 0, 1, 2);
        due("ASK", askWrite(x, 2, 0, 3, -7), 7);
        due("pending", x.role(0), 3);
        due("PASS", x.letter(0), 5 + 16);
        due("letters", x.letters(), 1);
        due("count of the primary", x.count(0), 2);
        due("PASS", x.deliver(0), 5);
        due("count of the backup", x.count(1), 3);
        due("cell of the backup", x.cell(1, 3), -7);
        due("cell of the primary", x.cell(0, 3), 0);
        settle(x);
        due("cell of the primary", x.cell(0, 3), -7);

        // To the backup of its own view, also when the service has gone on to the next.
        LeasedViewStore y = running(3);
        y.advance(130);
        pingHeard(y, 0);
        pingHeard(y, 2);
        due("view 3", y.check(), 3);
        due("ASK", askWrite(y, 2, 0, 3, -7), 7);
        due("PASS to server 1", y.letter(0), 5 + 16);
        due("pushed", y.push(0), true);
        due("PASS to server 1", y.letter(1), 5 + 16);
    }

    // ---- 8 ANSWER

    private static void answerOfThisNumber() {
        LeasedViewStore x = alone(2);
        for (int i = 1; i <= 3; i++) {
            x.begin(0, true, 0, i);
            x.send(0, 0);
            x.deliver(0);
            due("finished before", x.finished(0), i - 1);
            due("ANSWER", x.deliver(0), 8);
            due("finished", x.finished(0), i);
            due("result", x.result(0), i - 1);
            due("none under way", x.send(0, 0), false);
        }
    }

    private static void answerWithoutOperation() {
        LeasedViewStore x = alone(2);
        write(x, 1, 0, 0, 30);
        x.begin(0, false, 0, 0);
        x.send(0, 0);
        x.send(0, 0);
        x.deliver(0);
        write(x, 1, 0, 0, 31);
        due("finished by the first", x.finished(0), 1);
        due("result of the first", x.result(0), 30);

        LeasedViewStore y = alone(2);
        y.begin(0, true, 0, 5);
        y.send(0, 0);
        y.send(0, 0);
        y.deliver(0);
        y.deliver(0);
        due("first ANSWER", y.deliver(0), 8);
        due("second ANSWER", y.deliver(0), 16);
        due("finished once", y.finished(0), 1);
    }

    /** The number of the ANSWER is one less than that of the operation under way. */
    private static void answerOfAnotherNumber() {
        LeasedViewStore x = alone(2);
        write(x, 1, 0, 0, 30);
        x.begin(0, false, 0, 0);
        x.send(0, 0);
        x.send(0, 0);
        x.deliver(0);
        x.deliver(0);
        due("ANSWER of 1", x.deliver(0), 8);
        x.begin(0, true, 1, 7);
        due("ANSWER of 1 when 2 is under way", x.deliver(0), 16);
        due("finished", x.finished(0), 1);
        due("still under way", x.send(0, 0), true);
        x.deliver(0);
        due("ANSWER of 2", x.deliver(0), 8);
        due("finished", x.finished(0), 2);
        due("result", x.result(0), 0);

        // The same number of another client.
        LeasedViewStore y = alone(2);
        y.begin(0, true, 0, 5);
        y.begin(1, true, 1, 6);
        y.send(0, 0);
        y.deliver(0);
        due("ANSWER to client 0", y.deliver(0), 8);
        due("client 1 is still under way", y.finished(1), 0);
        due("client 1 is still under way", y.send(1, 0), true);
    }

    // ---- entering

    private static void enterDropsPending() {
        // Still primary, alone.
        LeasedViewStore x = pending(2, 0, 0, 4);
        x.lose(0);
        x.advance(130);
        pingHeard(x, 0);
        x.check();
        due("pending in view 2", x.role(0), 3);
        pingThroughOnly(x, 0);
        due("none pending in view 3", x.role(0), 1);
        due("nothing to push", x.push(0), false);
        due("not done", x.count(0), 0);

        // Still primary, with another backup: when it is ready again, nothing is pending.
        LeasedViewStore y = pending(3, 0, 0, 4);
        y.lose(0);
        keepPrimary(y, 2);
        due("not ready in view 3", y.role(0), 2);
        y.deliver(0);
        y.deliver(0);
        due("ready, none pending", y.role(0), 1);
        due("another write", askWrite(y, 1, 0, 1, 5), 7);
        settle(y);
        due("the dropped write is not done", y.cell(0, 0), 0);
        due("the other is", y.cell(0, 1), 5);
    }

    private static void enterIsNotFilled() {
        // Filled as backup of view 2, out of view 3, backup again of view 4.
        LeasedViewStore x = running(2);
        write(x, 0, 0, 0, 1);
        due("filled", x.role(1), 4);
        x.advance(130);
        pingHeard(x, 0);
        x.check();
        pingThrough(x, 0);
        pingHeard(x, 0);
        write(x, 0, 0, 0, 2);
        pingHeard(x, 1);
        due("view 4", x.check(), 4);
        pingThrough(x, 1);
        due("not filled", x.role(1), 5);
        due("old state", x.cell(1, 0), 1);
        pingThrough(x, 0);
        due("filled anew", x.role(1), 4);
        due("new state", x.cell(1, 0), 2);

        // The same by the FILL itself, without a VIEW.
        LeasedViewStore y = running(2);
        write(y, 0, 0, 0, 1);
        y.advance(130);
        pingHeard(y, 0);
        y.check();
        pingThrough(y, 0);
        pingHeard(y, 0);
        write(y, 0, 0, 0, 2);
        pingHeard(y, 1);
        y.check();
        pingThroughOnly(y, 0);
        due("backup of view 2 still", y.view(1), shown(2, 0, 1));
        due("FILL of view 4", y.deliver(0), 3);
        due("new state", y.cell(1, 0), 2);
        due("count", y.count(1), 2);
    }

    private static void enterAsPrimary() {
        // Without a backup.
        LeasedViewStore x = new LeasedViewStore(2);
        pingThrough(x, 1);
        due("ready", x.role(1), 1);
        due("no FILL", x.letters(), 0);

        // With one, after it was ready alone.
        LeasedViewStore y = alone(3);
        write(y, 0, 0, 2, 8);
        pingHeard(y, 2);
        y.check();
        pingThroughOnly(y, 0);
        due("not ready", y.role(0), 2);
        due("the FILL alone", y.letters(), 1);
        due("FILL to the backup", y.letter(0), 3 + 16 * 2);
        due("FILL", y.deliver(0), 3);
        due("the view", y.view(2), shown(2, 0, 2));
        due("the state", y.cell(2, 2), 8);

        // A backup that becomes primary without one: ready, with no FILL.
        LeasedViewStore z = running(2);
        promoteBackup(z, NOBODY);
        due("promoted alone", z.role(1), 1);
        due("no FILL", z.letters(), 0);

        // A backup that becomes primary with one.
        LeasedViewStore w = running(3);
        promoteBackup(w, 2);
        due("promoted", w.role(1), 2);
        due("FILL to the newcomer", w.letter(0), 3 + 16 * 2);
    }

    private static void enterAsOther() {
        LeasedViewStore x = paired(3);
        pingThroughOnly(x, 1);
        due("backup", x.role(1), 5);
        due("sends nothing", x.letters(), 0);
        pingThroughOnly(x, 2);
        due("neither", x.role(2), 6);
        due("sends nothing", x.letters(), 0);
    }
}
