/**
 * A store of four cells kept by a primary server and a backup, with a view service, leases for
 * reads, and letters that wait until they are delivered or lost.
 *
 * Everything that a call needs is made in the constructor: no call makes an object.
 */
public final class LeasedViewStore {
    private static final int MIN_SERVERS = 2;
    private static final int MAX_SERVERS = 5;
    private static final int CLIENTS = 3;
    private static final int CELLS = 4;
    private static final int MAX_WAITING = 32;

    private static final int MAX_STEP = 1000;
    private static final int MAX_SKEW = 10;
    private static final int FRESH_TIME = 130;
    private static final int LEASE_TIME = 100;
    private static final int FIRST_LEASE = -1000;

    private static final int THE_SERVICE = -1;
    /** No server bears this number; it is also how view() shows that there is no backup. */
    private static final int NOBODY = 7;
    private static final int NEVER = -1;

    private static final int PING = 1;
    private static final int VIEW = 2;
    private static final int FILL = 3;
    private static final int FILLED = 4;
    private static final int PASS = 5;
    private static final int PASSED = 6;
    private static final int ASK = 7;
    private static final int ANSWER = 8;
    private static final int IDLE_MORE = 8;

    private static final int ROLE_NONE = 0;
    private static final int ROLE_PRIMARY_READY = 1;
    private static final int ROLE_PRIMARY_NOT_READY = 2;
    private static final int ROLE_PRIMARY_PENDING = 3;
    private static final int ROLE_BACKUP_FILLED = 4;
    private static final int ROLE_BACKUP_NOT_FILLED = 5;
    private static final int ROLE_NEITHER = 6;
    private static final int CRASHED_MORE = 8;

    private final Server[] servers;
    private final Client[] clients;
    private final Service service;
    private final Post post;
    private int time;

    public LeasedViewStore(int n) {
        int size = Math.max(MIN_SERVERS, Math.min(MAX_SERVERS, n));
        servers = new Server[size];
        for (int s = 0; s < size; s++) {
            servers[s] = new Server(s);
        }
        clients = new Client[CLIENTS];
        for (int c = 0; c < CLIENTS; c++) {
            clients[c] = new Client(c);
        }
        service = new Service(size);
        post = new Post();
        time = 0;
    }

    public int advance(int d) {
        if (d < 0 || d > MAX_STEP) {
            return -1;
        }
        time += d;
        return time;
    }

    public boolean skew(int s, int o) {
        if (!isServer(s) || o < -MAX_SKEW || o > MAX_SKEW) {
            return false;
        }
        servers[s].skew = o;
        return true;
    }

    public boolean ping(int s) {
        if (!isServer(s) || servers[s].crashed) {
            return false;
        }
        Server server = servers[s];
        Letter letter = post.next(PING, s);
        letter.confirmed = server.confirmedNumber();
        letter.clock = clockOf(server);
        return true;
    }

    public int check() {
        if (service.confirmed) {
            service.reviseView(time);
        }
        return service.present.number;
    }

    public boolean push(int s) {
        if (!isServer(s) || servers[s].crashed) {
            return false;
        }
        Server server = servers[s];
        if (!server.isPrimary() || !server.view.hasBackup()) {
            return false;
        }
        if (!server.ready) {
            sendFill(server);
            return true;
        }
        if (server.pending) {
            sendPass(server);
            return true;
        }
        return false;
    }

    public int begin(int c, boolean write, int k, int v) {
        if (!isClient(c) || !isCell(k)) {
            return -1;
        }
        Client client = clients[c];
        if (client.underWay) {
            return -2;
        }
        client.start(write, k, v);
        return client.operation.number;
    }

    public boolean send(int c, int s) {
        if (!isClient(c) || !isServer(s) || !clients[c].underWay) {
            return false;
        }
        post.next(ASK, s).operation.become(clients[c].operation);
        return true;
    }

    public int deliver(int i) {
        if (!post.has(i)) {
            return -1;
        }
        Letter letter = post.take(i);
        return takesEffect(letter) ? letter.kind : letter.kind + IDLE_MORE;
    }

    public boolean lose(int i) {
        if (!post.has(i)) {
            return false;
        }
        post.take(i);
        return true;
    }

    public boolean crash(int s) {
        if (!isServer(s) || servers[s].crashed) {
            return false;
        }
        servers[s].crashed = true;
        return true;
    }

    public int letters() {
        return post.waiting;
    }

    public int letter(int i) {
        if (!post.has(i)) {
            return -1;
        }
        Letter letter = post.row[i];
        return letter.kind + 16 * letter.party;
    }

    public int view(int s) {
        if (s == THE_SERVICE) {
            return service.present.shown();
        }
        return isServer(s) ? servers[s].view.shown() : -1;
    }

    public int role(int s) {
        if (!isServer(s)) {
            return -1;
        }
        int role = servers[s].liveRole();
        return servers[s].crashed ? role + CRASHED_MORE : role;
    }

    public int cell(int s, int k) {
        return isServer(s) && isCell(k) ? servers[s].state.cells[k] : 0;
    }

    public int count(int s) {
        return isServer(s) ? servers[s].state.count : -1;
    }

    public int finished(int c) {
        return isClient(c) ? clients[c].finished : -1;
    }

    public int result(int c) {
        return isClient(c) ? clients[c].result : 0;
    }

    private boolean isServer(int s) {
        return s >= 0 && s < servers.length;
    }

    private boolean isClient(int c) {
        return c >= 0 && c < CLIENTS;
    }

    private boolean isCell(int k) {
        return k >= 0 && k < CELLS;
    }

    private int clockOf(Server server) {
        return time + server.skew;
    }

    /** Does what a letter that has just been taken from the post does; false when it is idle. */
    private boolean takesEffect(Letter letter) {
        if (letter.kind == PING) {
            return takePing(letter);
        }
        if (letter.kind == ANSWER) {
            return clients[letter.party].takeAnswer(letter);
        }
        Server server = servers[letter.party];
        if (server.crashed) {
            return false;
        }
        switch (letter.kind) {
            case VIEW:
                return takeView(server, letter);
            case FILL:
                return takeFill(server, letter);
            case FILLED:
                return takeFilled(server, letter);
            case PASS:
                return takePass(server, letter);
            case PASSED:
                return takePassed(server, letter);
            case ASK:
                return takeAsk(server, letter);
            default:
                return false;
        }
    }

    private boolean takePing(Letter ping) {
        service.notePing(ping, time);
        Letter letter = post.next(VIEW, ping.party);
        letter.view.become(service.present);
        letter.clock = ping.clock;
        return true;
    }

    private boolean takeView(Server server, Letter letter) {
        if (letter.view.number < server.view.number) {
            return false;
        }
        if (letter.view.number > server.view.number) {
            enterView(server, letter.view);
        }
        if (server.isPrimary()) {
            server.lease = Math.max(server.lease, letter.clock + LEASE_TIME);
        }
        return true;
    }

    private boolean takeFill(Server server, Letter letter) {
        if (letter.view.number < server.view.number) {
            return false;
        }
        if (letter.view.number > server.view.number) {
            enterView(server, letter.view);
        }
        if (!server.filled) {
            server.state.become(letter.state);
            server.filled = true;
        }
        post.next(FILLED, server.view.primary).view.become(server.view);
        return true;
    }

    private boolean takeFilled(Server server, Letter letter) {
        if (!server.isPrimaryOf(letter.view.number) || server.ready) {
            return false;
        }
        server.ready = true;
        return true;
    }

    private boolean takePass(Server server, Letter letter) {
        if (!server.isBackupOf(letter.view.number) || !server.filled) {
            return false;
        }
        if (server.state.count == letter.count) {
            server.state.doWrite(letter.operation);
        }
        Letter answer = post.next(PASSED, server.view.primary);
        answer.view.become(server.view);
        // The count of the letter, not of the state: the primary compares it with its own.
        answer.count = letter.count;
        return true;
    }

    private boolean takePassed(Server server, Letter letter) {
        if (!server.isPrimaryOf(letter.view.number) || !server.pending
                || server.state.count != letter.count) {
            return false;
        }
        server.pending = false;
        doWriteAndAnswer(server, server.pendingWrite);
        return true;
    }

    private boolean takeAsk(Server server, Letter letter) {
        if (!server.isPrimary()) {
            return false;
        }
        Operation operation = letter.operation;
        return operation.write ? takeWrite(server, operation) : takeRead(server, operation);
    }

    private boolean takeRead(Server server, Operation read) {
        if (clockOf(server) >= server.lease) {
            return false;
        }
        sendAnswer(read, server.state.cells[read.cell]);
        return true;
    }

    private boolean takeWrite(Server server, Operation write) {
        int latest = server.state.latest[write.client];
        if (write.number < latest) {
            return false;
        }
        if (write.number == latest) {
            sendAnswer(write, server.state.results[write.client]);
            return true;
        }
        if (!server.view.hasBackup()) {
            doWriteAndAnswer(server, write);
            return true;
        }
        if (!server.ready || server.pending) {
            return false;
        }
        server.pending = true;
        server.pendingWrite.become(write);
        sendPass(server);
        return true;
    }

    private void doWriteAndAnswer(Server server, Operation write) {
        server.state.doWrite(write);
        sendAnswer(write, server.state.results[write.client]);
    }

    private void enterView(Server server, View view) {
        server.view.become(view);
        server.pending = false;
        server.filled = false;
        server.ready = server.isPrimary() && !view.hasBackup();
        if (server.isPrimary() && view.hasBackup()) {
            sendFill(server);
        }
    }

    private void sendFill(Server primary) {
        Letter letter = post.next(FILL, primary.view.backup);
        letter.view.become(primary.view);
        letter.state.become(primary.state);
    }

    private void sendPass(Server primary) {
        Letter letter = post.next(PASS, primary.view.backup);
        letter.view.become(primary.view);
        letter.count = primary.state.count;
        letter.operation.become(primary.pendingWrite);
    }

    private void sendAnswer(Operation operation, int result) {
        Letter letter = post.next(ANSWER, operation.client);
        letter.operation.become(operation);
        letter.result = result;
    }

    /** A numbered view; number 0 stands for none. */
    private static final class View {
        int number = 0;
        int primary = NOBODY;
        int backup = NOBODY;

        void become(View other) {
            number = other.number;
            primary = other.primary;
            backup = other.backup;
        }

        boolean hasBackup() {
            return backup != NOBODY;
        }

        int shown() {
            return number == 0 ? 0 : 64 * number + 8 * primary + backup;
        }
    }

    /** A read or a write of a client. */
    private static final class Operation {
        int client = 0;
        int number = 0;
        boolean write = false;
        int cell = 0;
        int value = 0;

        void become(Operation other) {
            client = other.client;
            number = other.number;
            write = other.write;
            cell = other.cell;
            value = other.value;
        }
    }

    /** The cells with what is remembered of each client's latest write. */
    private static final class State {
        final int[] cells = new int[CELLS];
        final int[] latest = new int[CLIENTS];
        final int[] results = new int[CLIENTS];
        int count = 0;

        void become(State other) {
            System.arraycopy(other.cells, 0, cells, 0, CELLS);
            System.arraycopy(other.latest, 0, latest, 0, CLIENTS);
            System.arraycopy(other.results, 0, results, 0, CLIENTS);
            count = other.count;
        }

        void doWrite(Operation write) {
            results[write.client] = cells[write.cell];
            cells[write.cell] = write.value;
            latest[write.client] = write.number;
            count++;
        }
    }

    /** One server with all that it has; a crash leaves the rest as it was. */
    private static final class Server {
        final int self;
        final View view = new View();
        final State state = new State();
        final Operation pendingWrite = new Operation();
        int skew = 0;
        int lease = FIRST_LEASE;
        boolean crashed = false;
        boolean ready = false;
        boolean pending = false;
        boolean filled = false;

        Server(int self) {
            this.self = self;
        }

        boolean isPrimary() {
            return view.primary == self;
        }

        boolean isPrimaryOf(int number) {
            return view.number == number && view.primary == self;
        }

        boolean isBackupOf(int number) {
            return view.number == number && view.backup == self;
        }

        /** A primary whose backup is not filled yet must not let the service go on to a next view. */
        int confirmedNumber() {
            return isPrimary() && !ready ? 0 : view.number;
        }

        int liveRole() {
            if (view.number == 0) {
                return ROLE_NONE;
            }
            if (view.primary == self) {
                if (!ready) {
                    return ROLE_PRIMARY_NOT_READY;
                }
                return pending ? ROLE_PRIMARY_PENDING : ROLE_PRIMARY_READY;
            }
            if (view.backup == self) {
                return filled ? ROLE_BACKUP_FILLED : ROLE_BACKUP_NOT_FILLED;
            }
            return ROLE_NEITHER;
        }
    }

    /** One client; its operation is the latest that it began, under way or finished. */
    private static final class Client {
        final Operation operation = new Operation();
        boolean underWay = false;
        int finished = 0;
        int result = 0;

        Client(int self) {
            operation.client = self;
        }

        void start(boolean write, int cell, int value) {
            operation.number++;
            operation.write = write;
            operation.cell = cell;
            operation.value = value;
            underWay = true;
        }

        boolean takeAnswer(Letter letter) {
            if (!underWay || operation.number != letter.operation.number) {
                return false;
            }
            underWay = false;
            finished++;
            result = letter.result;
            return true;
        }
    }

    /** The view service: it hears pings and says who is primary and backup. */
    private static final class Service {
        final View present = new View();
        final int[] latestPing;
        boolean confirmed = false;

        Service(int size) {
            latestPing = new int[size];
            for (int s = 0; s < size; s++) {
                latestPing[s] = NEVER;
            }
        }

        void notePing(Letter ping, int time) {
            latestPing[ping.party] = time;
            if (present.number == 0) {
                changeView(ping.party, NOBODY);
            } else if (ping.party == present.primary && ping.confirmed == present.number) {
                confirmed = true;
            }
        }

        void reviseView(int time) {
            boolean primaryFresh = isFresh(present.primary, time);
            boolean backupFresh = present.hasBackup() && isFresh(present.backup, time);
            int newcomer = freshNewcomer(time);
            if (!primaryFresh && backupFresh) {
                changeView(present.backup, newcomer);
            } else if (primaryFresh && !backupFresh) {
                if (present.hasBackup() || newcomer != NOBODY) {
                    changeView(present.primary, newcomer);
                }
            }
        }

        void changeView(int primary, int backup) {
            present.number++;
            present.primary = primary;
            present.backup = backup;
            confirmed = false;
        }

        boolean isFresh(int s, int time) {
            return latestPing[s] != NEVER && time - latestPing[s] < FRESH_TIME;
        }

        int freshNewcomer(int time) {
            for (int s = 0; s < latestPing.length; s++) {
                if (s != present.primary && s != present.backup && isFresh(s, time)) {
                    return s;
                }
            }
            return NOBODY;
        }
    }

    /** A letter of any kind: which of its fields count depends on the kind. */
    private static final class Letter {
        final View view = new View();
        final Operation operation = new Operation();
        final State state = new State();
        int kind = 0;
        /** The server that it goes to; for a PING the one it comes from, for an ANSWER the client. */
        int party = 0;
        int confirmed = 0;
        int clock = 0;
        int count = 0;
        int result = 0;
    }

    /** The letters that wait, in the order in which they were sent. */
    private static final class Post {
        /** One more than may wait, so that a letter just taken is not overwritten by its answer. */
        final Letter[] row = new Letter[MAX_WAITING + 1];
        /** Takes what is sent when the row is full: it is written like any other and never read. */
        final Letter lost = new Letter();
        int waiting = 0;

        Post() {
            for (int i = 0; i < row.length; i++) {
                row[i] = new Letter();
            }
        }

        boolean has(int i) {
            return i >= 0 && i < waiting;
        }

        /** The letter to write on, already at its place in the row. */
        Letter next(int kind, int party) {
            Letter letter = lost;
            if (waiting < MAX_WAITING) {
                letter = row[waiting];
                waiting++;
            }
            letter.kind = kind;
            letter.party = party;
            return letter;
        }

        /** Takes the letter at place i, which must wait; those behind it move up. */
        Letter take(int i) {
            Letter taken = row[i];
            for (int j = i; j < MAX_WAITING; j++) {
                row[j] = row[j + 1];
            }
            row[MAX_WAITING] = taken;
            waiting--;
            return taken;
        }
    }
}
