import java.util.ArrayList;
import java.util.List;
import java.util.Random;

/**
 * Long runs of chosen-by-seed calls, each answer and the whole visible state compared with a model
 * that is written straight from the document, with lists and records that are never changed.
 */
public final class ModelTest {
    private static final int RUNS = 3000;
    private static final int CALLS = 512;
    private static int wrong = 0;

    record Request(int client, int number, boolean write, int key, int value, int node) { }

    record Version(int number, int value) { }

    record Update(int number, Request by) { }

    record Msg(String kind, int to, int epoch, Request request, int number, int value, int asker,
               List<Integer> chain, List<Version> versions, List<Integer> table) {
        int shown() {
            return switch (kind) {
                case "UPDATE", "ACK", "COPY" -> number;
                case "CONFIG" -> epoch;
                default -> request.number();
            };
        }
    }

    static final List<String> KINDS = List.of("", "WRITE", "READ", "UPDATE", "ACK", "QUERY", "ANSWER",
        "REPLY", "CONFIG", "COPY");

    static final class ModelNode {
        final int id;
        boolean up = true;
        boolean ready;
        boolean hands;
        int epoch = 1;
        List<Integer> chain;
        int last;
        int acked;
        final List<Update> pending = new ArrayList<>();
        List<Version> clean = new ArrayList<>(List.of(new Version(0, 0), new Version(0, 0),
            new Version(0, 0), new Version(0, 0)));
        List<Integer> table = new ArrayList<>(List.of(0, 0, 0));
        List<Integer> done = new ArrayList<>(List.of(0, 0, 0));

        ModelNode(int id, List<Integer> chain) {
            this.id = id;
            this.chain = chain;
            this.ready = chain.contains(id);
        }

        boolean head() {
            return !chain.isEmpty() && chain.get(0) == id;
        }

        boolean tail() {
            return !chain.isEmpty() && chain.get(chain.size() - 1) == id;
        }

        Integer neighbour(int step) {
            int place = chain.indexOf(id);
            int there = place + step;
            return place < 0 || there < 0 || there >= chain.size() ? null : chain.get(there);
        }

        boolean dirty(int key) {
            return pending.stream().anyMatch(u -> u.by().key() == key);
        }

        Version newest(int key) {
            Version v = clean.get(key);
            for (Update u : pending) {
                if (u.by().key() == key) {
                    v = new Version(u.number(), u.by().value());
                }
            }
            return v;
        }
    }

    static final class ModelClient {
        Request last;
        boolean open;
        int sentAt;
        Version seen = new Version(0, 0);
    }

    static final class Model {
        final int retry;
        int clock = 0;
        int epoch = 1;
        List<Integer> chain = new ArrayList<>();
        final List<Integer> ever;
        final List<ModelNode> nodes = new ArrayList<>();
        final List<ModelClient> clients = List.of(new ModelClient(), new ModelClient(), new ModelClient());
        final List<Msg> list = new ArrayList<>();

        Model(int nodes, int retry) {
            int n = nodes < 1 || nodes > 4 ? 3 : nodes;
            this.retry = retry < 2 || retry > 20 ? 5 : retry;
            for (int x = 0; x < n; x++) {
                chain.add(x);
            }
            ever = new ArrayList<>(chain);
            for (int x = 0; x < 6; x++) {
                this.nodes.add(new ModelNode(x, List.copyOf(chain)));
            }
        }

        void send(Msg m) {
            if (list.size() < 60) {
                list.add(m);
            }
        }

        void sendRequest(Request r, Integer to) {
            clients.get(r.client()).sentAt = clock;
            if (to != null) {
                send(new Msg(r.write() ? "WRITE" : "READ", to, 0, r, 0, 0, 0, null, null, null));
            }
        }

        void sendReply(Request r, Version v) {
            send(new Msg("REPLY", r.client(), 0, r, v.number(), v.value(), 0, null, null, null));
        }

        void sendAck(ModelNode n) {
            if (n.neighbour(-1) != null) {
                send(new Msg("ACK", n.neighbour(-1), n.epoch, null, n.acked, 0, 0, null, null, null));
            }
        }

        void sendUpdate(ModelNode n, Update u) {
            send(new Msg("UPDATE", n.neighbour(1), n.epoch, u.by(), u.number(), 0, 0, null, null, null));
        }

        void sendCopy(ModelNode n) {
            List<Version> versions = List.of(n.newest(0), n.newest(1), n.newest(2), n.newest(3));
            send(new Msg("COPY", n.neighbour(1), n.epoch, null, n.last, 0, 0, null, versions,
                List.copyOf(n.table)));
        }

        void apply(ModelNode n, Request r) {
            n.last = n.last + 1;
            Update u = new Update(n.last, r);
            n.pending.add(u);
            n.table.set(r.client(), r.number());
            if (n.tail()) {
                commit(n, n.last);
            } else {
                sendUpdate(n, u);
            }
        }

        void commit(ModelNode n, int upTo) {
            while (!n.pending.isEmpty() && n.pending.get(0).number() <= upTo) {
                Update u = n.pending.remove(0);
                Version v = new Version(u.number(), u.by().value());
                n.clean.set(u.by().key(), v);
                n.done.set(u.by().client(), u.by().number());
                n.acked = u.number();
                if (n.tail()) {
                    sendReply(u.by(), v);
                }
            }
            sendAck(n);
        }

        void arrive(Msg m) {
            if (m.kind().equals("REPLY")) {
                ModelClient c = clients.get(m.to());
                if (c.open && c.last.number() == m.request().number()) {
                    c.open = false;
                    if (!c.last.write()) {
                        c.seen = new Version(m.number(), m.value());
                    }
                }
                return;
            }
            ModelNode n = nodes.get(m.to());
            boolean betweenNodes = List.of("UPDATE", "ACK", "QUERY", "ANSWER", "COPY").contains(m.kind());
            if (!n.up || betweenNodes && m.epoch() != n.epoch) {
                return;
            }
            if (!n.ready && !m.kind().equals("COPY") && !m.kind().equals("CONFIG")) {
                return;
            }
            switch (m.kind()) {
                case "WRITE" -> atWrite(n, m.request());
                case "UPDATE" -> atUpdate(n, m);
                case "ACK" -> atAck(n, m);
                case "READ" -> atRead(n, m.request());
                case "QUERY" -> atQuery(n, m);
                case "ANSWER" -> atAnswer(n, m);
                case "CONFIG" -> atConfig(n, m);
                default -> atCopy(n, m);
            }
        }

        void atWrite(ModelNode n, Request r) {
            if (!n.head()) {
                return;
            }
            if (r.number() <= n.done.get(r.client())) {
                if (r.number() == n.done.get(r.client())) {
                    sendReply(r, new Version(0, 0));
                }
            } else if (r.number() <= n.table.get(r.client())) {
                return;
            } else if (n.pending.size() < 8) {
                apply(n, r);
            }
        }

        void atUpdate(ModelNode n, Msg m) {
            if (m.number() == n.last + 1) {
                if (n.pending.size() < 8) {
                    apply(n, m.request());
                }
            } else if (m.number() <= n.acked) {
                sendAck(n);
            }
        }

        void atAck(ModelNode n, Msg m) {
            if (m.number() > n.acked && m.number() <= n.last) {
                commit(n, m.number());
            }
            n.hands = false;
        }

        void atRead(ModelNode n, Request r) {
            if (!n.dirty(r.key())) {
                sendReply(r, n.clean.get(r.key()));
            } else {
                int tail = n.chain.get(n.chain.size() - 1);
                send(new Msg("QUERY", tail, n.epoch, r, 0, 0, n.id, null, null, null));
            }
        }

        void atQuery(ModelNode n, Msg m) {
            if (n.tail()) {
                int number = n.clean.get(m.request().key()).number();
                send(new Msg("ANSWER", m.asker(), n.epoch, m.request(), number, 0, 0, null, null, null));
            }
        }

        void atAnswer(ModelNode n, Msg m) {
            Version v = n.clean.get(m.request().key());
            if (v.number() >= m.number()) {
                sendReply(m.request(), v);
                return;
            }
            for (Update u : n.pending) {
                if (u.number() == m.number() && u.by().key() == m.request().key()) {
                    sendReply(m.request(), new Version(u.number(), u.by().value()));
                }
            }
        }

        void atConfig(ModelNode n, Msg m) {
            if (m.epoch() <= n.epoch) {
                return;
            }
            Integer before = n.neighbour(1);
            n.epoch = m.epoch();
            n.chain = m.chain();
            if (!n.ready) {
                return;
            }
            if (n.tail()) {
                if (n.acked < n.last) {
                    commit(n, n.last);
                }
                return;
            }
            if (!n.neighbour(1).equals(before)) {
                n.hands = true;
                sendCopy(n);
            }
            n.pending.forEach(u -> sendUpdate(n, u));
        }

        void atCopy(ModelNode n, Msg m) {
            if (!n.ready) {
                n.last = m.number();
                n.acked = m.number();
                n.clean = new ArrayList<>(m.versions());
                n.table = new ArrayList<>(m.table());
                n.done = new ArrayList<>(m.table());
                n.ready = true;
                if (n.neighbour(1) != null) {
                    n.hands = true;
                    sendCopy(n);
                }
            }
            sendAck(n);
        }

        Integer masterHead() {
            return chain.isEmpty() ? null : chain.get(0);
        }

        int open(int c, int key, boolean write, int value, int node) {
            if (c < 0 || c > 2 || key < 0 || key > 3 || clients.get(c).open) {
                return -1;
            }
            if (write ? value < 1 || value > 9999 : node < 0 || node > 5) {
                return -1;
            }
            ModelClient asker = clients.get(c);
            int number = asker.last == null ? 1 : asker.last.number() + 1;
            asker.last = new Request(c, number, write, key, value, node);
            asker.open = true;
            sendRequest(asker.last, write ? masterHead() : Integer.valueOf(node));
            return number;
        }

        boolean none(int i) {
            return i < 0 || i >= list.size();
        }

        boolean deliver(int i) {
            if (none(i)) {
                return false;
            }
            arrive(list.remove(i));
            return true;
        }

        boolean drop(int i) {
            if (none(i) || list.get(i).kind().equals("CONFIG")) {
                return false;
            }
            list.remove(i);
            return true;
        }

        boolean duplicate(int i) {
            if (none(i) || list.size() == 60) {
                return false;
            }
            send(list.get(i));
            return true;
        }

        boolean tick(int n) {
            if (n < 1 || n > 20) {
                return false;
            }
            for (int k = 0; k < n; k++) {
                oneTick();
            }
            return true;
        }

        void oneTick() {
            clock++;
            if (clock % 3 == 0) {
                for (ModelNode n : nodes) {
                    if (n.up && n.ready && n.neighbour(1) != null) {
                        if (n.hands) {
                            sendCopy(n);
                        }
                        n.pending.forEach(u -> sendUpdate(n, u));
                    }
                }
            }
            for (ModelClient c : clients) {
                if (c.open && clock >= c.sentAt + retry) {
                    boolean own = !c.last.write() && chain.contains(c.last.node());
                    sendRequest(c.last, own ? Integer.valueOf(c.last.node()) : masterHead());
                }
            }
        }

        boolean noNode(int x) {
            return x < 0 || x > 5;
        }

        boolean crash(int x) {
            if (noNode(x) || !nodes.get(x).up) {
                return false;
            }
            nodes.get(x).up = false;
            return true;
        }

        boolean detect(int x) {
            if (noNode(x) || !chain.contains(x) || nodes.get(x).up || list.size() > 50) {
                return false;
            }
            chain.remove(Integer.valueOf(x));
            sendConfigs();
            return true;
        }

        boolean join(int x) {
            if (noNode(x) || !nodes.get(x).up || ever.contains(x) || chain.isEmpty() || list.size() > 50) {
                return false;
            }
            chain.add(x);
            ever.add(x);
            sendConfigs();
            return true;
        }

        void sendConfigs() {
            epoch++;
            for (int x : chain) {
                send(new Msg("CONFIG", x, epoch, null, 0, 0, 0, List.copyOf(chain), null, null));
            }
        }

        int message(int i) {
            if (none(i)) {
                return -1;
            }
            Msg m = list.get(i);
            return 1000000 * KINDS.indexOf(m.kind()) + 100000 * m.to() + m.shown();
        }

        int node(int x, int what) {
            if (noNode(x)) {
                return -1;
            }
            ModelNode n = nodes.get(x);
            return switch (what) {
                case 0 -> n.up ? n.ready ? 3 : 1 : n.ready ? 2 : 0;
                case 1 -> n.epoch;
                case 2 -> n.last;
                case 3 -> n.acked;
                case 4 -> n.pending.size();
                case 5 -> n.hands ? 1 : 0;
                default -> -1;
            };
        }

        int client(int c, int what) {
            if (c < 0 || c > 2) {
                return -1;
            }
            ModelClient asked = clients.get(c);
            return switch (what) {
                case 0 -> asked.last == null ? 0 : asked.last.number();
                case 1 -> asked.open ? 1 : 0;
                case 2 -> asked.seen.number();
                case 3 -> asked.seen.value();
                default -> -1;
            };
        }
    }

    /** How a run is biased, so that runs come to full lists, full pending rows and long chains. */
    record Taste(int write, int read, int first, int any, int drop, int duplicate, int tick, int crash,
                 int detect, int join, boolean losesAcks) {
        int sum() {
            return write + read + first + any + drop + duplicate + tick + crash + detect + join;
        }
    }

    private static final List<Taste> TASTES = List.of(
        new Taste(20, 20, 80, 20, 4, 4, 6, 1, 3, 2, false),
        new Taste(20, 10, 30, 60, 10, 10, 10, 1, 3, 2, false),
        new Taste(30, 10, 100, 5, 2, 2, 1, 0, 0, 1, true),
        new Taste(30, 10, 100, 5, 2, 8, 1, 1, 1, 1, true),
        new Taste(20, 20, 30, 20, 4, 20, 30, 2, 5, 5, false),
        new Taste(10, 10, 40, 10, 4, 4, 4, 4, 8, 8, false));

    private static int odd(Random r, int usual) {
        if (r.nextInt(60) != 0) {
            return usual;
        }
        int[] odd = {-1, Integer.MIN_VALUE, Integer.MAX_VALUE, 3, 4, 6, 60, 21, 0, 10000};
        return odd[r.nextInt(odd.length)];
    }

    private static int countKind(ChainKeeper x, int i) {
        return x.message(i) / 1000000;
    }

    private static String oneCall(Random r, Taste t, ChainKeeper x, Model m) {
        int size = Math.max(1, x.messages());
        int i = odd(r, r.nextInt(size));
        if (t.losesAcks() && countKind(x, 0) == 4 && r.nextInt(12) != 0) {
            return same("drop", x.drop(0), m.drop(0));
        }
        int pick = r.nextInt(t.sum());
        if ((pick -= t.write()) < 0) {
            int c = odd(r, r.nextInt(3));
            int key = odd(r, r.nextInt(4));
            int value = odd(r, 1 + r.nextInt(9999));
            return same("write", x.write(c, key, value), m.open(c, key, true, value, 0));
        }
        if ((pick -= t.read()) < 0) {
            int c = odd(r, r.nextInt(3));
            int key = odd(r, r.nextInt(4));
            int node = odd(r, r.nextInt(6));
            return same("read", x.read(c, key, node), m.open(c, key, false, 0, node));
        }
        if ((pick -= t.first()) < 0) {
            return same("deliver", x.deliver(0), m.deliver(0));
        }
        if ((pick -= t.any()) < 0) {
            return same("deliver", x.deliver(i), m.deliver(i));
        }
        if ((pick -= t.drop()) < 0) {
            return same("drop", x.drop(i), m.drop(i));
        }
        if ((pick -= t.duplicate()) < 0) {
            return same("duplicate", x.duplicate(i), m.duplicate(i));
        }
        if ((pick -= t.tick()) < 0) {
            int n = odd(r, r.nextInt(8) == 0 ? 1 + r.nextInt(20) : 1 + r.nextInt(3));
            return same("tick", x.tick(n), m.tick(n));
        }
        int node = odd(r, r.nextInt(6));
        if ((pick -= t.crash()) < 0) {
            return same("crash", x.crash(node), m.crash(node));
        }
        if ((pick -= t.detect()) < 0) {
            return same("detect", x.detect(node), m.detect(node));
        }
        return same("join", x.join(node), m.join(node));
    }

    private static String same(String call, boolean got, boolean want) {
        return same(call, got ? 1 : 0, want ? 1 : 0);
    }

    private static String same(String call, int got, int want) {
        return got == want ? null : call + " answered " + got + ", due is " + want;
    }

    private static String sameState(ChainKeeper x, Model m) {
        String first = same("messages()", x.messages(), m.list.size());
        for (int i = -1; i <= 60 && first == null; i++) {
            first = same("message(" + i + ")", x.message(i), m.message(i));
        }
        for (int i = -1; i <= 6 && first == null; i++) {
            first = same("chain(" + i + ")", x.chain(i), i < 0 || i >= m.chain.size() ? -1 : m.chain.get(i));
        }
        for (int n = -1; n <= 6 && first == null; n++) {
            for (int what = -1; what <= 6 && first == null; what++) {
                first = same("node(" + n + ", " + what + ")", x.node(n, what), m.node(n, what));
            }
            for (int key = -1; key <= 4 && first == null; key++) {
                boolean none = n < 0 || n > 5 || key < 0 || key > 3;
                Version v = none ? new Version(-1, -1) : m.nodes.get(n).clean.get(key);
                first = same("clean(" + n + ", " + key + ")", x.clean(n, key), v.number());
                if (first == null) {
                    first = same("value(" + n + ", " + key + ")", x.value(n, key), v.value());
                }
            }
        }
        for (int c = -1; c <= 3 && first == null; c++) {
            for (int what = -1; what <= 4 && first == null; what++) {
                first = same("client(" + c + ", " + what + ")", x.client(c, what), m.client(c, what));
            }
        }
        return first;
    }

    /** Far beyond the promised calls the answers are free, but no call may throw. */
    private static void farBeyond() {
        Random r = new Random(77);
        ChainKeeper x = new ChainKeeper(4, 2);
        Model m = new Model(4, 2);
        for (int call = 0; call < 100000; call++) {
            oneCall(r, TASTES.get(2), x, m);
        }
    }

    public static void main(String[] args) {
        farBeyond();
        int fullLists = 0;
        int fullPending = 0;
        int longest = 0;
        for (int run = 0; run < RUNS && wrong < 10; run++) {
            Random r = new Random(run);
            Taste t = TASTES.get(run % TASTES.size());
            int nodes = r.nextInt(7) - 1;
            int retry = r.nextInt(4) == 0 ? r.nextInt(24) - 1 : 2 + r.nextInt(3);
            ChainKeeper x = new ChainKeeper(nodes, retry);
            Model m = new Model(nodes, retry);
            for (int call = 0; call < CALLS; call++) {
                String bad = oneCall(r, t, x, m);
                bad = bad == null ? sameState(x, m) : bad;
                if (bad != null) {
                    wrong++;
                    System.out.println("run " + run + ", call " + call + ": " + bad);
                    break;
                }
                fullLists += m.list.size() == 60 ? 1 : 0;
                fullPending += x.node(m.chain.isEmpty() ? 0 : m.chain.get(0), 4) == 8 ? 1 : 0;
                longest = Math.max(longest, m.chain.size());
            }
        }
        if (wrong == 0 && (fullLists == 0 || fullPending == 0 || longest < 6)) {
            wrong++;
            System.out.println("the runs do not come to the edges: " + fullLists + " " + fullPending + " " + longest);
        }
        System.out.println(fullLists + " calls with a full list, " + fullPending + " with full pending rows");
        System.out.println(wrong == 0 ? "all answers are as due" : wrong + " answers are not as due");
        if (wrong != 0) {
            System.exit(1);
        }
    }
}
