/**
 * What the tests share: the count of answers that are not the ones that are due, the inputs that are
 * wrong everywhere, and ways to bring a store into a state.
 */
abstract class TestBase {
    static final int MIN = Integer.MIN_VALUE;
    static final int MAX = Integer.MAX_VALUE;
    static final int[] NO_CLIENT = {MIN, -2, -1, 3, 4, MAX};
    static final int[] NO_CELL = {MIN, -2, -1, 4, 5, MAX};
    /** How view() shows that there is no backup. */
    static final int NOBODY = 7;

    private static int wrong = 0;
    private static int looked = 0;
    private static String topic = "";

    // ---- looking at answers

    /** What the answers that are looked at from now on are about. */
    static void about(String newTopic) {
        topic = newTopic;
    }

    /** Runs the test of one sentence of the document, which stands here in the document's words. */
    static void sentence(String where, String words, Runnable test) {
        about(where + " \"" + words + "\"");
        int before = looked;
        try {
            test.run();
        } catch (RuntimeException e) {
            tell("a call failed: " + e);
        }
        if (looked == before) {
            tell("its test looks at nothing");
        }
    }

    static void due(String what, long got, long want) {
        looked++;
        if (got != want) {
            tell(what + " answered " + got + ", due is " + want);
        }
    }

    static void due(String what, boolean got, boolean want) {
        due(what, got ? 1 : 0, want ? 1 : 0);
    }

    private static void tell(String what) {
        wrong++;
        System.out.println(topic + ": " + what);
    }

    /** Tells how it went, and ends with exit code 1 if an answer was wrong. */
    static void end() {
        System.out.println(looked + " answers looked at, " + wrong + " wrong");
        if (wrong != 0) {
            System.exit(1);
        }
    }

    // ---- inputs

    /** Numbers that no server bears when there are n; for view() alone -1 is not wrong. */
    static int[] noServer(int n) {
        return new int[] {MIN, -2, -1, n, n + 1, 7, MAX};
    }

    /** Places at which no letter waits when so many wait. */
    static int[] noPlace(int letters) {
        return new int[] {MIN, -2, -1, letters, letters + 1, 33, 64, MAX};
    }

    static int shown(int number, int primary, int backup) {
        return 64 * number + 8 * primary + backup;
    }

    // ---- ways to bring a store into a state

    /** Delivers the letter at place 0 until none waits. */
    static void settle(LeasedViewStore x) {
        for (int i = 0; i < 200 && x.letters() > 0; i++) {
            x.deliver(0);
        }
    }

    static int deliverLast(LeasedViewStore x) {
        return x.deliver(x.letters() - 1);
    }

    static void pingThrough(LeasedViewStore x, int s) {
        x.ping(s);
        settle(x);
    }

    /** Brings the ping and its answer through, and leaves the letters before them where they are. */
    static void pingThroughOnly(LeasedViewStore x, int s) {
        x.ping(s);
        deliverLast(x);
        deliverLast(x);
    }

    /** The ping arrives; its answer is lost, so that the server learns nothing. */
    static void pingHeard(LeasedViewStore x, int s) {
        x.ping(s);
        deliverLast(x);
        x.lose(x.letters() - 1);
    }

    /** Server 0 alone is primary of view 1, which is confirmed; no letter waits. */
    static LeasedViewStore alone(int n) {
        LeasedViewStore x = new LeasedViewStore(n);
        pingThrough(x, 0);
        pingThrough(x, 0);
        return x;
    }

    /** The service has view 2 with servers 0 and 1; neither server knows yet. */
    static LeasedViewStore paired(int n) {
        LeasedViewStore x = alone(n);
        pingThrough(x, 1);
        x.check();
        return x;
    }

    /** View 2 with servers 0 and 1; the primary has entered, and its FILL is the only letter. */
    static LeasedViewStore filling(int n) {
        LeasedViewStore x = paired(n);
        x.ping(0);
        x.deliver(0);
        x.deliver(0);
        return x;
    }

    /** View 2 with servers 0 and 1, ready, filled and confirmed; no letter waits. */
    static LeasedViewStore running(int n) {
        LeasedViewStore x = paired(n);
        pingThrough(x, 0);
        pingThrough(x, 0);
        return x;
    }

    /** As running(n), then a write of v to cell k by client c is pending, its PASS the only letter. */
    static LeasedViewStore pending(int n, int c, int k, int v) {
        LeasedViewStore x = running(n);
        askWrite(x, c, 0, k, v);
        return x;
    }

    /** From view 2 confirmed: server 1 is stale, and server 0 enters view 3 with the newcomer or alone. */
    static void keepPrimary(LeasedViewStore x, int newcomer) {
        nextView(x, 0, newcomer);
    }

    /** From view 2 confirmed: server 0 is stale, and server 1 enters view 3 with the newcomer or alone. */
    static void promoteBackup(LeasedViewStore x, int newcomer) {
        nextView(x, 1, newcomer);
    }

    private static void nextView(LeasedViewStore x, int primary, int newcomer) {
        x.advance(130);
        pingHeard(x, primary);
        if (newcomer != NOBODY) {
            pingHeard(x, newcomer);
        }
        x.check();
        pingThroughOnly(x, primary);
    }

    /** Begins a write and delivers its ASK; what the delivery answers. */
    static int askWrite(LeasedViewStore x, int c, int s, int k, int v) {
        x.begin(c, true, k, v);
        x.send(c, s);
        return deliverLast(x);
    }

    static void write(LeasedViewStore x, int c, int s, int k, int v) {
        x.begin(c, true, k, v);
        x.send(c, s);
        settle(x);
    }

    /**
     * What the delivery of an ASK for a read by client 2 answers: 7, or 15 when the lease is over.
     * Leaves no letter behind, and the read under way.
     */
    static int readAt(LeasedViewStore x, int s) {
        x.begin(2, false, 0, 0);
        x.send(2, s);
        int answer = deliverLast(x);
        if (answer == 7) {
            x.lose(x.letters() - 1);
        }
        return answer;
    }

    /** Server s pings until so many letters wait. */
    static void fillPost(LeasedViewStore x, int s, int letters) {
        for (int i = 0; i < 32 && x.letters() < letters; i++) {
            x.ping(s);
        }
    }
}
