/**
 * A store of four keys that is kept by a chain of nodes: writes go from its head to its tail,
 * acknowledgements come back, any node answers reads of what is clean there, and a master takes
 * crashed nodes out and lets new ones come in as tails.
 */
public final class ChainKeeper {
    private static final int NODES = 6;
    private static final int CLIENTS = 3;
    private static final int KEYS = 4;
    private static final int MAX_VALUE = 9999;
    private static final int MAX_MESSAGES = 60;
    private static final int MAX_MESSAGES_FOR_CONFIG = 50;
    private static final int MAX_TICKS = 20;
    private static final int COPY_PERIOD = 3;
    // A power of two, so that the low bits of an update's number are its slot.
    private static final int MAX_PENDING = 8;

    private static final int WRITE = 1;
    private static final int READ = 2;
    private static final int UPDATE = 3;
    private static final int ACK = 4;
    private static final int QUERY = 5;
    private static final int ANSWER = 6;
    private static final int REPLY = 7;
    private static final int CONFIG = 8;
    private static final int COPY = 9;

    private static final int NOBODY = -1;
    private static final int REFUSED = -1;
    // Clients and the master belong to no epoch of a node.
    private static final int NO_EPOCH = 0;

    private final int retry;
    private final Wire wire;
    private final Node[] nodes;
    private final Client[] clients;
    private final boolean[] everInChain;
    private Chain master;
    private int clock;

    public ChainKeeper(int nodes, int retry) {
        int length = nodes >= 1 && nodes <= 4 ? nodes : 3;
        this.retry = retry >= 2 && retry <= 20 ? retry : 5;
        this.wire = new Wire();
        this.master = firstChain(length);
        this.nodes = new Node[NODES];
        this.everInChain = new boolean[NODES];
        for (int x = 0; x < NODES; x++) {
            this.nodes[x] = new Node(x, this.master, x < length);
            this.everInChain[x] = x < length;
        }
        this.clients = new Client[CLIENTS];
        for (int c = 0; c < CLIENTS; c++) {
            this.clients[c] = new Client(c);
        }
    }

    public int write(int c, int key, int value) {
        if (!mayAsk(c, key) || value < 1 || value > MAX_VALUE) {
            return REFUSED;
        }
        Client asker = clients[c];
        asker.openWrite(key, value);
        sendRequest(asker, master.head());
        return asker.request;
    }

    public int read(int c, int key, int node) {
        if (!mayAsk(c, key) || !isNode(node)) {
            return REFUSED;
        }
        Client asker = clients[c];
        asker.openRead(key, node);
        sendRequest(asker, node);
        return asker.request;
    }

    public boolean deliver(int i) {
        if (!wire.has(i)) {
            return false;
        }
        Message m = wire.takeOut(i);
        if (m.kind == REPLY) {
            if (isClient(m.to)) {
                clients[m.to].takeReply(m);
            }
        } else if (isNode(m.to)) {
            nodes[m.to].take(m, wire);
        }
        return true;
    }

    public boolean drop(int i) {
        if (!wire.has(i) || wire.at(i).kind == CONFIG) {
            return false;
        }
        wire.takeOut(i);
        return true;
    }

    public boolean duplicate(int i) {
        if (!wire.has(i) || wire.size >= MAX_MESSAGES) {
            return false;
        }
        wire.sendAgain(i);
        return true;
    }

    public boolean tick(int n) {
        if (n < 1 || n > MAX_TICKS) {
            return false;
        }
        for (int k = 0; k < n; k++) {
            passOneTick();
        }
        return true;
    }

    public boolean crash(int x) {
        if (!isNode(x) || !nodes[x].up) {
            return false;
        }
        nodes[x].up = false;
        return true;
    }

    public boolean detect(int x) {
        if (!isNode(x) || !master.has(x) || nodes[x].up || !hasRoomForConfigs()) {
            return false;
        }
        master = master.without(x);
        sendConfigs();
        return true;
    }

    public boolean join(int x) {
        if (!isNode(x) || !nodes[x].up || everInChain[x]) {
            return false;
        }
        if (master.size() == 0 || !hasRoomForConfigs()) {
            return false;
        }
        everInChain[x] = true;
        master = master.with(x);
        sendConfigs();
        return true;
    }

    public int messages() {
        return wire.size;
    }

    public int message(int i) {
        if (!wire.has(i)) {
            return -1;
        }
        Message m = wire.at(i);
        return 1000000 * m.kind + 100000 * m.to + m.shownNumber();
    }

    public int chain(int i) {
        return master.at(i);
    }

    public int node(int x, int what) {
        if (!isNode(x)) {
            return -1;
        }
        Node asked = nodes[x];
        switch (what) {
            case 0: return (asked.up ? 1 : 0) + (asked.ready ? 2 : 0);
            case 1: return asked.known.epoch;
            case 2: return asked.last;
            case 3: return asked.acked;
            case 4: return asked.pendingCount();
            case 5: return asked.handsOver ? 1 : 0;
            default: return -1;
        }
    }

    public int clean(int x, int key) {
        return isNode(x) && isKey(key) ? nodes[x].cleanVersion[key] : -1;
    }

    public int value(int x, int key) {
        return isNode(x) && isKey(key) ? nodes[x].cleanValue[key] : -1;
    }

    public int client(int c, int what) {
        if (!isClient(c)) {
            return -1;
        }
        Client asked = clients[c];
        switch (what) {
            case 0: return asked.request;
            case 1: return asked.isOpen ? 1 : 0;
            case 2: return asked.seenVersion;
            case 3: return asked.seenValue;
            default: return -1;
        }
    }

    private static boolean isNode(int x) {
        return x >= 0 && x < NODES;
    }

    private static boolean isClient(int c) {
        return c >= 0 && c < CLIENTS;
    }

    private static boolean isKey(int key) {
        return key >= 0 && key < KEYS;
    }

    private static Chain firstChain(int length) {
        int[] members = new int[NODES];
        for (int x = 0; x < length; x++) {
            members[x] = x;
        }
        return new Chain(1, members, length);
    }

    private boolean mayAsk(int c, int key) {
        return isClient(c) && isKey(key) && !clients[c].isOpen;
    }

    private void sendRequest(Client asker, int to) {
        // A request that finds no node, or no room, waits for its next turn all the same.
        asker.sentAt = clock;
        if (to == NOBODY) {
            return;
        }
        Message m = wire.draft(asker.isWrite ? WRITE : READ, to, NO_EPOCH);
        m.client = asker.id;
        m.request = asker.request;
        m.key = asker.key;
        m.value = asker.newValue;
        wire.sendDraft();
    }

    private void passOneTick() {
        clock++;
        if (clock % COPY_PERIOD == 0) {
            for (int x = 0; x < NODES; x++) {
                nodes[x].sendAllAgain(wire);
            }
        }
        for (int c = 0; c < CLIENTS; c++) {
            Client asker = clients[c];
            if (asker.isOpen && clock - asker.sentAt >= retry) {
                sendRequest(asker, retryTarget(asker));
            }
        }
    }

    private int retryTarget(Client asker) {
        boolean asksItsNode = !asker.isWrite && master.has(asker.readNode);
        return asksItsNode ? asker.readNode : master.head();
    }

    private boolean hasRoomForConfigs() {
        return wire.size <= MAX_MESSAGES_FOR_CONFIG;
    }

    private void sendConfigs() {
        for (int i = 0; i < master.size(); i++) {
            Message m = wire.draft(CONFIG, master.at(i), master.epoch);
            m.news = master;
            wire.sendDraft();
        }
    }

    /** An epoch and its chain; it never changes, so that the master, nodes and messages share it. */
    private static final class Chain {
        final int epoch;
        private final int[] members;
        private final int length;

        Chain(int epoch, int[] members, int length) {
            this.epoch = epoch;
            this.members = members;
            this.length = length;
        }

        int size() {
            return length;
        }

        int at(int i) {
            return i >= 0 && i < length && i < members.length ? members[i] : NOBODY;
        }

        int head() {
            return at(0);
        }

        int tail() {
            return at(length - 1);
        }

        boolean has(int x) {
            return placeOf(x) >= 0;
        }

        int before(int x) {
            return at(placeOf(x) - 1);
        }

        int after(int x) {
            int place = placeOf(x);
            return place < 0 ? NOBODY : at(place + 1);
        }

        Chain without(int x) {
            int[] rest = new int[NODES];
            int kept = 0;
            for (int i = 0; i < length && i < NODES; i++) {
                if (at(i) != x) {
                    rest[kept] = at(i);
                    kept++;
                }
            }
            return new Chain(epoch + 1, rest, kept);
        }

        Chain with(int x) {
            int[] grown = members.clone();
            if (length >= grown.length) {
                return this;
            }
            grown[length] = x;
            return new Chain(epoch + 1, grown, length + 1);
        }

        private int placeOf(int x) {
            for (int i = 0; i < length; i++) {
                if (at(i) == x) {
                    return i;
                }
            }
            return -1;
        }
    }

    /** A message; which of its fields count depends on its kind. */
    private static final class Message {
        int kind;
        int to;
        int epoch;
        int client;
        int request;
        int key;
        int value;
        // Of an update, an acknowledgement or a version; of a COPY its LAST.
        int number;
        int asker;
        Chain news;
        final int[] table = new int[CLIENTS];
        final int[] versions = new int[KEYS];
        final int[] values = new int[KEYS];

        int shownNumber() {
            switch (kind) {
                case UPDATE:
                case ACK:
                case COPY: return number;
                case CONFIG: return epoch;
                default: return request;
            }
        }

        void becomeLike(Message other) {
            client = other.client;
            request = other.request;
            key = other.key;
            value = other.value;
            number = other.number;
            asker = other.asker;
            news = other.news;
            System.arraycopy(other.table, 0, table, 0, CLIENTS);
            System.arraycopy(other.versions, 0, versions, 0, KEYS);
            System.arraycopy(other.values, 0, values, 0, KEYS);
        }
    }

    /** The messages under way, in rows that are used again. */
    private static final class Wire {
        // One row more than can be under way: a draft that is lost is written there.
        private final Message[] rows = new Message[MAX_MESSAGES + 1];
        // The message taken out last keeps its row while what it causes is sent.
        private Message hand = new Message();
        int size;

        Wire() {
            for (int i = 0; i <= MAX_MESSAGES; i++) {
                rows[i] = new Message();
            }
        }

        boolean has(int i) {
            return i >= 0 && i < size;
        }

        Message at(int i) {
            return rows[i];
        }

        Message takeOut(int i) {
            Message out = rows[i];
            for (int k = i; k < size - 1; k++) {
                rows[k] = rows[k + 1];
            }
            rows[size - 1] = hand;
            hand = out;
            size--;
            return out;
        }

        Message draft(int kind, int to, int epoch) {
            Message m = rows[size];
            m.kind = kind;
            m.to = to;
            m.epoch = epoch;
            return m;
        }

        void sendDraft() {
            if (size < MAX_MESSAGES) {
                size++;
            }
        }

        void sendAgain(int i) {
            Message old = rows[i];
            draft(old.kind, old.to, old.epoch).becomeLike(old);
            sendDraft();
        }
    }

    /** A client and its last request. */
    private static final class Client {
        final int id;
        int request;
        boolean isOpen;
        boolean isWrite;
        int key;
        int newValue;
        int readNode;
        int sentAt;
        int seenVersion;
        int seenValue;

        Client(int id) {
            this.id = id;
        }

        void openWrite(int ofKey, int toValue) {
            open(ofKey);
            isWrite = true;
            newValue = toValue;
        }

        void openRead(int ofKey, int atNode) {
            open(ofKey);
            isWrite = false;
            readNode = atNode;
        }

        void takeReply(Message m) {
            if (!isOpen || m.request != request) {
                return;
            }
            isOpen = false;
            if (!isWrite) {
                seenVersion = m.number;
                seenValue = m.value;
            }
        }

        private void open(int ofKey) {
            request++;
            isOpen = true;
            key = ofKey;
        }
    }

    /** A node; every update that it has and that is not acknowledged is in the slot of its number. */
    private static final class Node {
        private final int id;
        boolean up = true;
        boolean ready;
        boolean handsOver;
        Chain known;
        private int predecessor;
        private int successor;
        private boolean isTail;
        int last;
        int acked;
        final int[] cleanVersion = new int[KEYS];
        final int[] cleanValue = new int[KEYS];
        private final int[] pendingKey = new int[MAX_PENDING];
        private final int[] pendingValue = new int[MAX_PENDING];
        private final int[] pendingClient = new int[MAX_PENDING];
        private final int[] pendingRequest = new int[MAX_PENDING];
        private final int[] table = new int[CLIENTS];
        private final int[] done = new int[CLIENTS];

        Node(int id, Chain known, boolean ready) {
            this.id = id;
            this.ready = ready;
            learn(known);
        }

        int pendingCount() {
            return last - acked;
        }

        void take(Message m, Wire wire) {
            if (!up || !accepts(m)) {
                return;
            }
            switch (m.kind) {
                case WRITE: takeWrite(m, wire); break;
                case READ: takeRead(m, wire); break;
                case UPDATE: takeUpdate(m, wire); break;
                case ACK: takeAck(m, wire); break;
                case QUERY: takeQuery(m, wire); break;
                case ANSWER: takeAnswer(m, wire); break;
                case CONFIG: takeConfig(m, wire); break;
                case COPY: takeCopy(m, wire); break;
                default: break;
            }
        }

        void sendAllAgain(Wire wire) {
            if (!up || !ready || successor == NOBODY) {
                return;
            }
            if (handsOver) {
                sendCopy(wire);
            }
            sendPending(wire);
        }

        private void learn(Chain news) {
            known = news;
            predecessor = news.before(id);
            successor = news.after(id);
            isTail = news.tail() == id;
        }

        private boolean accepts(Message m) {
            switch (m.kind) {
                case CONFIG: return true;
                case WRITE:
                case READ: return ready;
                case COPY: return m.epoch == known.epoch;
                default: return ready && m.epoch == known.epoch;
            }
        }

        private void takeWrite(Message m, Wire wire) {
            if (known.head() != id) {
                return;
            }
            int doneRequest = done[m.client];
            if (m.request == doneRequest) {
                sendReply(m.client, m.request, 0, 0, wire);
            } else if (m.request > doneRequest && m.request > table[m.client] && hasRoom()) {
                apply(m, wire);
            }
        }

        private void takeRead(Message m, Wire wire) {
            if (newestPending(m.key) == 0) {
                sendReply(m.client, m.request, cleanVersion[m.key], cleanValue[m.key], wire);
                return;
            }
            Message query = wire.draft(QUERY, known.tail(), known.epoch);
            query.client = m.client;
            query.request = m.request;
            query.key = m.key;
            query.asker = id;
            wire.sendDraft();
        }

        private void takeUpdate(Message m, Wire wire) {
            if (m.number == last + 1 && hasRoom()) {
                apply(m, wire);
            } else if (m.number <= acked) {
                sendAck(wire);
            }
        }

        private void takeAck(Message m, Wire wire) {
            if (m.number > acked && m.number <= last) {
                commit(m.number, wire);
            }
            handsOver = false;
        }

        private void takeQuery(Message m, Wire wire) {
            if (!isTail) {
                return;
            }
            Message answer = wire.draft(ANSWER, m.asker, known.epoch);
            answer.client = m.client;
            answer.request = m.request;
            answer.key = m.key;
            answer.number = cleanVersion[m.key];
            wire.sendDraft();
        }

        private void takeAnswer(Message m, Wire wire) {
            if (cleanVersion[m.key] >= m.number) {
                sendReply(m.client, m.request, cleanVersion[m.key], cleanValue[m.key], wire);
            } else if (isPendingOf(m.number, m.key)) {
                sendReply(m.client, m.request, m.number, pendingValue[slot(m.number)], wire);
            }
        }

        private void takeConfig(Message m, Wire wire) {
            if (m.news == null || m.epoch <= known.epoch) {
                return;
            }
            int oldSuccessor = successor;
            learn(m.news);
            if (!ready) {
                return;
            }
            if (isTail) {
                if (acked < last) {
                    commit(last, wire);
                }
            } else if (successor != NOBODY) {
                if (successor != oldSuccessor) {
                    handOver(wire);
                }
                sendPending(wire);
            }
        }

        private void takeCopy(Message m, Wire wire) {
            if (!ready) {
                becomeReady(m);
                if (successor != NOBODY) {
                    handOver(wire);
                }
            }
            sendAck(wire);
        }

        private void becomeReady(Message m) {
            last = m.number;
            acked = m.number;
            System.arraycopy(m.versions, 0, cleanVersion, 0, KEYS);
            System.arraycopy(m.values, 0, cleanValue, 0, KEYS);
            System.arraycopy(m.table, 0, table, 0, CLIENTS);
            System.arraycopy(m.table, 0, done, 0, CLIENTS);
            ready = true;
        }

        private void apply(Message m, Wire wire) {
            last++;
            int s = slot(last);
            pendingKey[s] = m.key;
            pendingValue[s] = m.value;
            pendingClient[s] = m.client;
            pendingRequest[s] = m.request;
            table[m.client] = m.request;
            if (isTail) {
                commit(last, wire);
            } else {
                sendUpdate(last, wire);
            }
        }

        private void commit(int upTo, Wire wire) {
            for (int number = acked + 1; number <= upTo; number++) {
                int s = slot(number);
                cleanVersion[pendingKey[s]] = number;
                cleanValue[pendingKey[s]] = pendingValue[s];
                done[pendingClient[s]] = pendingRequest[s];
                acked = number;
                if (isTail) {
                    sendReply(pendingClient[s], pendingRequest[s], number, pendingValue[s], wire);
                }
            }
            sendAck(wire);
        }

        private void handOver(Wire wire) {
            handsOver = true;
            sendCopy(wire);
        }

        private void sendCopy(Wire wire) {
            Message copy = wire.draft(COPY, successor, known.epoch);
            copy.number = last;
            System.arraycopy(table, 0, copy.table, 0, CLIENTS);
            for (int key = 0; key < KEYS; key++) {
                int newest = newestPending(key);
                copy.versions[key] = newest == 0 ? cleanVersion[key] : newest;
                copy.values[key] = newest == 0 ? cleanValue[key] : pendingValue[slot(newest)];
            }
            wire.sendDraft();
        }

        private void sendPending(Wire wire) {
            for (int number = acked + 1; number <= last; number++) {
                sendUpdate(number, wire);
            }
        }

        private void sendUpdate(int number, Wire wire) {
            if (successor == NOBODY) {
                return;
            }
            int s = slot(number);
            Message update = wire.draft(UPDATE, successor, known.epoch);
            update.number = number;
            update.key = pendingKey[s];
            update.value = pendingValue[s];
            update.client = pendingClient[s];
            update.request = pendingRequest[s];
            wire.sendDraft();
        }

        private void sendAck(Wire wire) {
            if (predecessor == NOBODY) {
                return;
            }
            Message ack = wire.draft(ACK, predecessor, known.epoch);
            ack.number = acked;
            wire.sendDraft();
        }

        private void sendReply(int toClient, int request, int version, int ofValue, Wire wire) {
            Message reply = wire.draft(REPLY, toClient, NO_EPOCH);
            reply.request = request;
            reply.number = version;
            reply.value = ofValue;
            wire.sendDraft();
        }

        private boolean hasRoom() {
            return pendingCount() < MAX_PENDING;
        }

        private boolean isPendingOf(int number, int key) {
            return number > acked && number <= last && pendingKey[slot(number)] == key;
        }

        /** The number of the last pending update of a key; 0 if the key is not dirty. */
        private int newestPending(int key) {
            for (int number = last; number > acked; number--) {
                if (pendingKey[slot(number)] == key) {
                    return number;
                }
            }
            return 0;
        }

        private static int slot(int number) {
            return number & (MAX_PENDING - 1);
        }
    }
}
