/** Each promise of the document on its own: ordinary calls, the edges that it names, wrong inputs. */
public final class PromiseTest {
    private static final int[] WRONG = {Integer.MIN_VALUE, -1000, -1, Integer.MAX_VALUE};
    private static int wrong = 0;
    private static int promise = 0;

    private static void due(String what, long want, long got) {
        if (got != want) {
            wrong++;
            System.out.println("promise " + promise + ": " + what + " answered " + got + ", due is " + want);
        }
    }

    private static void due(String what, boolean want, boolean got) {
        due(what, want ? 1 : 0, got ? 1 : 0);
    }

    public static void main(String[] args) {
        promise = 1; newObject();
        promise = 2; write();
        promise = 3; read();
        promise = 4; deliver();
        promise = 5; drop();
        promise = 6; duplicate();
        promise = 7; tick();
        promise = 8; crash();
        promise = 9; detect();
        promise = 10; join();
        promise = 11; messages();
        promise = 12; message();
        promise = 13; chain();
        promise = 14; node();
        promise = 15; clean();
        promise = 16; value();
        promise = 17; client();
        System.out.println(wrong == 0 ? "all answers are as due" : wrong + " answers are not as due");
        if (wrong != 0) {
            System.exit(1);
        }
    }

    private static void deliverAll(ChainKeeper x) {
        for (int k = 0; k < 1000 && x.messages() > 0; k++) {
            x.deliver(0);
        }
    }

    /** A write that has gone all the way. */
    private static void writeThrough(ChainKeeper x, int c, int key, int value) {
        x.write(c, key, value);
        deliverAll(x);
    }

    private static void fill(ChainKeeper x, int messages) {
        x.read(2, 0, 0);
        for (int k = 0; k < 60 && x.messages() < messages; k++) {
            x.duplicate(0);
        }
    }

    private static void newObject() {
        int[][] lengths = {{1, 1}, {2, 2}, {3, 3}, {4, 4}, {0, 3}, {5, 3}, {6, 3}, {-1, 3},
            {Integer.MIN_VALUE, 3}, {Integer.MAX_VALUE, 3}};
        for (int[] pair : lengths) {
            ChainKeeper x = new ChainKeeper(pair[0], 5);
            for (int i = 0; i < 6; i++) {
                due("chain(" + i + ") of " + pair[0], i < pair[1] ? i : -1, x.chain(i));
                due("node(" + i + ", 0) of " + pair[0], i < pair[1] ? 3 : 1, x.node(i, 0));
                due("node(" + i + ", 1)", 1, x.node(i, 1));
            }
            due("messages()", 0, x.messages());
        }
        int[][] retries = {{2, 2}, {3, 3}, {19, 19}, {20, 20}, {1, 5}, {21, 5}, {0, 5}, {-3, 5},
            {Integer.MIN_VALUE, 5}, {Integer.MAX_VALUE, 5}};
        for (int[] pair : retries) {
            ChainKeeper x = new ChainKeeper(2, pair[0]);
            x.write(0, 0, 1);
            if (pair[1] > 1) {
                x.tick(pair[1] - 1);
            }
            due("messages() before retry " + pair[0], 1, x.messages());
            x.tick(1);
            due("messages() at retry " + pair[0], 2, x.messages());
        }
    }

    private static void write() {
        ChainKeeper x = new ChainKeeper(3, 5);
        for (int bad : WRONG) {
            due("write of a wrong client", -1, x.write(bad, 0, 1));
            due("write of a wrong key", -1, x.write(0, bad, 1));
            due("write of a wrong value", -1, x.write(0, 0, bad));
        }
        due("write(3, 0, 1)", -1, x.write(3, 0, 1));
        due("write(0, 4, 1)", -1, x.write(0, 4, 1));
        due("write(0, 0, 0)", -1, x.write(0, 0, 0));
        due("write(0, 0, 10000)", -1, x.write(0, 0, 10000));
        due("messages() after refusals", 0, x.messages());
        due("client(0, 0) after refusals", 0, x.client(0, 0));
        due("client(0, 1) after refusals", 0, x.client(0, 1));
        due("write(0, 0, 1)", 1, x.write(0, 0, 1));
        due("write(1, 3, 9999)", 1, x.write(1, 3, 9999));
        due("write of an open client", -1, x.write(0, 1, 2));
        due("message(0)", 1000001, x.message(0));
        due("message(1)", 1000001, x.message(1));
        deliverAll(x);
        due("value(2, 0)", 1, x.value(2, 0));
        due("value(2, 3)", 9999, x.value(2, 3));
        due("the second write", 2, x.write(0, 0, 2));
        x.crash(0);
        due("detect(0)", true, x.detect(0));
        due("write at the master's new head", 2, x.write(1, 0, 2));
        due("its message", 1100002, x.message(x.messages() - 1));
        writeAtAnEmptyChain();
    }

    private static void writeAtAnEmptyChain() {
        ChainKeeper x = new ChainKeeper(1, 2);
        x.crash(0);
        x.detect(0);
        due("write at an empty chain", 1, x.write(0, 0, 1));
        due("messages()", 0, x.messages());
        due("client(0, 1)", 1, x.client(0, 1));
        ChainKeeper full = new ChainKeeper(1, 2);
        fill(full, 60);
        due("write into a full list", 1, full.write(0, 0, 1));
        due("messages()", 60, full.messages());
        due("client(0, 1)", 1, full.client(0, 1));
    }

    private static void read() {
        ChainKeeper x = new ChainKeeper(3, 5);
        for (int bad : WRONG) {
            due("read of a wrong client", -1, x.read(bad, 0, 1));
            due("read of a wrong key", -1, x.read(0, bad, 1));
            due("read at a wrong node", -1, x.read(0, 0, bad));
        }
        due("read(3, 0, 0)", -1, x.read(3, 0, 0));
        due("read(0, 4, 0)", -1, x.read(0, 4, 0));
        due("read(0, 0, 6)", -1, x.read(0, 0, 6));
        due("messages() after refusals", 0, x.messages());
        due("client(0, 0) after refusals", 0, x.client(0, 0));
        due("read(0, 3, 2)", 1, x.read(0, 3, 2));
        due("read of an open client", -1, x.read(0, 3, 2));
        due("message(0)", 2200001, x.message(0));
        due("read at a node outside the chain", 1, x.read(1, 0, 5));
        due("message(1)", 2500001, x.message(1));
        deliverAll(x);
        due("a node that is ready replies", 0, x.client(0, 1));
        due("one that is not ready does not", 1, x.client(1, 1));
        writeThrough(x, 2, 3, 77);
        due("the second read", 2, x.read(0, 3, 1));
        deliverAll(x);
        due("VERSION", 1, x.client(0, 2));
        due("VALUE", 77, x.client(0, 3));
    }

    private static void deliver() {
        ChainKeeper x = new ChainKeeper(3, 5);
        due("deliver(0) of none", false, x.deliver(0));
        x.write(0, 0, 1);
        x.write(1, 0, 2);
        for (int bad : WRONG) {
            due("deliver of a wrong index", false, x.deliver(bad));
        }
        due("deliver(2)", false, x.deliver(2));
        due("deliver(1)", true, x.deliver(1));
        due("messages()", 2, x.messages());
        due("message(0) is the other one", 1000001, x.message(0));
        due("message(1) is what was sent", 3100001, x.message(1));
        x.crash(0);
        due("deliver to a crashed node", true, x.deliver(0));
        due("messages()", 1, x.messages());
        due("node(0, 2)", 1, x.node(0, 2));
        ChainKeeper full = new ChainKeeper(2, 5);
        full.write(0, 0, 1);
        fill(full, 60);
        due("deliver of a full list", true, full.deliver(0));
        due("it is taken out before others are sent", 60, full.messages());
        due("the last message", 3100001, full.message(59));
    }

    private static void drop() {
        ChainKeeper x = new ChainKeeper(2, 5);
        due("drop(0) of none", false, x.drop(0));
        x.write(0, 0, 1);
        x.read(1, 0, 1);
        for (int bad : WRONG) {
            due("drop of a wrong index", false, x.drop(bad));
        }
        due("drop(2)", false, x.drop(2));
        due("drop(0)", true, x.drop(0));
        due("messages()", 1, x.messages());
        due("message(0)", 2100001, x.message(0));
        x.join(4);
        due("drop of a CONFIG", false, x.drop(1));
        due("drop of a CONFIG", false, x.drop(3));
        due("messages()", 4, x.messages());
        due("drop(0)", true, x.drop(0));
        due("messages()", 3, x.messages());
        due("node(0, 2)", 0, x.node(0, 2));
    }

    private static void duplicate() {
        ChainKeeper x = new ChainKeeper(2, 5);
        due("duplicate(0) of none", false, x.duplicate(0));
        x.write(0, 0, 1);
        x.read(1, 0, 1);
        for (int bad : WRONG) {
            due("duplicate of a wrong index", false, x.duplicate(bad));
        }
        due("duplicate(2)", false, x.duplicate(2));
        due("duplicate(0)", true, x.duplicate(0));
        due("messages()", 3, x.messages());
        due("message(0)", 1000001, x.message(0));
        due("message(2)", 1000001, x.message(2));
        for (int k = 3; k < 60; k++) {
            due("duplicate up to 60", true, x.duplicate(1));
        }
        due("duplicate of the 61st", false, x.duplicate(1));
        due("messages()", 60, x.messages());
        duplicatesHoldTheSame();
    }

    private static void duplicatesHoldTheSame() {
        ChainKeeper x = new ChainKeeper(1, 5);
        writeThrough(x, 0, 2, 31);
        x.join(5);
        x.duplicate(1);
        x.drop(1);
        x.deliver(0);
        x.duplicate(2);
        x.drop(2);
        x.deliver(0);
        x.deliver(0);
        due("a CONFIG's double still bears its epoch", 2, x.node(5, 1));
        x.deliver(0);
        due("a COPY's double makes ready", 3, x.node(5, 0));
        due("clean(5, 2)", 1, x.clean(5, 2));
        due("value(5, 2)", 31, x.value(5, 2));
    }

    private static void tick() {
        ChainKeeper x = new ChainKeeper(2, 20);
        x.write(0, 0, 1);
        for (int bad : WRONG) {
            due("tick of a wrong number", false, x.tick(bad));
        }
        due("tick(0)", false, x.tick(0));
        due("tick(21)", false, x.tick(21));
        due("tick(19)", true, x.tick(19));
        due("messages() before 20 ticks", 1, x.messages());
        due("tick(1)", true, x.tick(1));
        due("messages() after 20 ticks", 2, x.messages());
        due("tick(20)", true, x.tick(20));
        due("messages() after 40 ticks", 3, x.messages());
        nodesTick();
        readsTick();
    }

    private static void nodesTick() {
        ChainKeeper x = new ChainKeeper(3, 20);
        x.write(0, 0, 1);
        x.write(1, 1, 2);
        x.deliver(0);
        x.deliver(0);
        x.deliver(0);
        x.drop(0);
        x.drop(0);
        due("messages()", 0, x.messages());
        x.tick(2);
        due("messages() after 2 ticks", 0, x.messages());
        x.tick(1);
        due("messages() after 3 ticks", 3, x.messages());
        due("message(0)", 3100001, x.message(0));
        due("message(1)", 3100002, x.message(1));
        due("message(2)", 3200001, x.message(2));
        x.tick(3);
        due("messages() after 6 ticks", 6, x.messages());
        x.crash(0);
        x.tick(3);
        due("a crashed node sends nothing", 7, x.messages());
        due("message(6)", 3200001, x.message(6));
    }

    private static void readsTick() {
        ChainKeeper x = new ChainKeeper(3, 2);
        x.read(0, 0, 1);
        x.read(1, 0, 4);
        x.drop(0);
        x.drop(0);
        x.tick(2);
        due("messages()", 2, x.messages());
        due("a read goes to its node again", 2100001, x.message(0));
        due("or to the head if that is not in the chain", 2000001, x.message(1));
        x.crash(1);
        x.tick(2);
        due("the master does not know yet", 2100001, x.message(2));
        x.detect(1);
        x.tick(1);
        int before = x.messages();
        x.tick(1);
        due("now it does", 2000001, x.message(before));
    }

    private static void crash() {
        ChainKeeper x = new ChainKeeper(2, 5);
        for (int bad : WRONG) {
            due("crash of a wrong node", false, x.crash(bad));
        }
        due("crash(6)", false, x.crash(6));
        due("crash(0)", true, x.crash(0));
        due("node(0, 0)", 2, x.node(0, 0));
        due("crash(0) again", false, x.crash(0));
        due("crash(5) outside the chain", true, x.crash(5));
        due("node(5, 0)", 0, x.node(5, 0));
        due("crash(5) again", false, x.crash(5));
        due("chain(0) stays", 0, x.chain(0));
        due("messages()", 0, x.messages());
        x.write(0, 0, 1);
        x.deliver(0);
        due("what goes to it is lost", 0, x.messages());
    }

    private static void detect() {
        ChainKeeper x = new ChainKeeper(3, 5);
        for (int bad : WRONG) {
            due("detect of a wrong node", false, x.detect(bad));
        }
        due("detect(6)", false, x.detect(6));
        due("detect of one that is up", false, x.detect(1));
        x.crash(4);
        due("detect of one outside the chain", false, x.detect(4));
        x.crash(1);
        due("detect(1)", true, x.detect(1));
        due("detect(1) again", false, x.detect(1));
        due("chain(0)", 0, x.chain(0));
        due("chain(1)", 2, x.chain(1));
        due("chain(2)", -1, x.chain(2));
        due("messages()", 2, x.messages());
        due("message(0)", 8000002, x.message(0));
        due("message(1)", 8200002, x.message(1));
        due("nodes do not know yet", 1, x.node(0, 1));
        x.deliver(0);
        due("node(0, 1)", 2, x.node(0, 1));
        detectLimit();
        detectTheLast();
    }

    private static void detectLimit() {
        ChainKeeper x = new ChainKeeper(3, 5);
        fill(x, 51);
        x.crash(2);
        due("detect with 51 messages", false, x.detect(2));
        due("chain(2) after a refusal", 2, x.chain(2));
        x.drop(0);
        due("detect with 50 messages", true, x.detect(2));
        due("messages()", 52, x.messages());
        due("message(50)", 8000002, x.message(50));
    }

    private static void detectTheLast() {
        ChainKeeper x = new ChainKeeper(1, 5);
        x.crash(0);
        due("detect of the last", true, x.detect(0));
        due("chain(0)", -1, x.chain(0));
        due("messages()", 0, x.messages());
    }

    private static void join() {
        ChainKeeper x = new ChainKeeper(2, 5);
        for (int bad : WRONG) {
            due("join of a wrong node", false, x.join(bad));
        }
        due("join(6)", false, x.join(6));
        due("join of one in the chain", false, x.join(1));
        x.crash(3);
        due("join of one that is not up", false, x.join(3));
        due("join(5)", true, x.join(5));
        due("join(5) again", false, x.join(5));
        due("chain(2)", 5, x.chain(2));
        due("messages()", 3, x.messages());
        due("message(0)", 8000002, x.message(0));
        due("message(1)", 8100002, x.message(1));
        due("message(2)", 8500002, x.message(2));
        x.crash(5);
        x.detect(5);
        due("join of one that has been in the chain", false, x.join(5));
        due("chain(2)", -1, x.chain(2));
        joinLimits();
        joinedNodeServes();
    }

    private static void joinLimits() {
        ChainKeeper x = new ChainKeeper(4, 5);
        fill(x, 51);
        due("join with 51 messages", false, x.join(4));
        due("chain(4) after a refusal", -1, x.chain(4));
        x.drop(0);
        due("join with 50 messages", true, x.join(4));
        due("messages()", 55, x.messages());
        ChainKeeper six = new ChainKeeper(4, 5);
        due("join(4)", true, six.join(4));
        due("join(5)", true, six.join(5));
        due("messages()", 11, six.messages());
        due("the last CONFIG", 8500003, six.message(10));
        ChainKeeper empty = new ChainKeeper(1, 5);
        empty.crash(0);
        empty.detect(0);
        due("join of an empty chain", false, empty.join(3));
        due("chain(0)", -1, empty.chain(0));
    }

    private static void joinedNodeServes() {
        ChainKeeper x = new ChainKeeper(2, 5);
        writeThrough(x, 0, 1, 12);
        x.join(2);
        deliverAll(x);
        due("node(2, 0)", 3, x.node(2, 0));
        due("value(2, 1)", 12, x.value(2, 1));
        writeThrough(x, 0, 1, 13);
        due("value(2, 1)", 13, x.value(2, 1));
        due("value(0, 1)", 13, x.value(0, 1));
    }

    private static void messages() {
        ChainKeeper x = new ChainKeeper(3, 5);
        due("messages()", 0, x.messages());
        x.write(0, 0, 1);
        due("messages()", 1, x.messages());
        x.read(1, 0, 0);
        due("messages()", 2, x.messages());
        x.deliver(0);
        due("messages()", 2, x.messages());
        x.drop(0);
        due("messages()", 1, x.messages());
        fill(x, 60);
        due("messages()", 60, x.messages());
        x.tick(3);
        due("messages() at most", 60, x.messages());
    }

    private static void message() {
        ChainKeeper x = new ChainKeeper(2, 5);
        for (int bad : WRONG) {
            due("message of a wrong index", -1, x.message(bad));
        }
        due("message(0) of none", -1, x.message(0));
        writeThrough(x, 0, 0, 1);
        x.write(0, 0, 5);
        due("a WRITE", 1000002, x.message(0));
        x.deliver(0);
        due("an UPDATE", 3100002, x.message(0));
        x.read(1, 0, 0);
        due("a READ", 2000001, x.message(1));
        x.deliver(1);
        due("a QUERY", 5100001, x.message(1));
        x.deliver(1);
        due("an ANSWER", 6000001, x.message(1));
        x.deliver(1);
        due("a REPLY", 7100001, x.message(1));
        x.deliver(0);
        due("a REPLY", 7100001, x.message(0));
        due("a REPLY", 7000002, x.message(1));
        due("an ACK", 4000002, x.message(2));
        due("message(3)", -1, x.message(3));
        deliverAll(x);
        x.join(3);
        due("a CONFIG", 8300002, x.message(2));
        x.deliver(1);
        due("a COPY", 9300002, x.message(2));
        due("message(60)", -1, x.message(60));
    }

    private static void chain() {
        ChainKeeper x = new ChainKeeper(4, 5);
        for (int bad : WRONG) {
            due("chain of a wrong index", -1, x.chain(bad));
        }
        due("chain(0)", 0, x.chain(0));
        due("chain(3)", 3, x.chain(3));
        due("chain(4)", -1, x.chain(4));
        x.join(5);
        x.crash(0);
        x.detect(0);
        due("chain(0)", 1, x.chain(0));
        due("chain(2)", 3, x.chain(2));
        due("chain(3)", 5, x.chain(3));
        due("chain(4)", -1, x.chain(4));
        due("chain(6)", -1, x.chain(6));
    }

    private static void node() {
        ChainKeeper x = new ChainKeeper(2, 5);
        for (int bad : WRONG) {
            due("node of a wrong node", -1, x.node(bad, 0));
            due("node of a wrong what", -1, x.node(0, bad));
        }
        due("node(6, 0)", -1, x.node(6, 0));
        due("node(0, 6)", -1, x.node(0, 6));
        for (int what = 2; what <= 5; what++) {
            due("node(0, " + what + ") at first", 0, x.node(0, what));
        }
        writeThrough(x, 0, 0, 1);
        x.write(0, 1, 2);
        x.deliver(0);
        due("LAST", 2, x.node(0, 2));
        due("ACKED", 1, x.node(0, 3));
        due("pending", 1, x.node(0, 4));
        x.drop(0);
        x.join(2);
        x.deliver(1);
        due("epoch", 2, x.node(1, 1));
        due("epoch of one that has not heard", 1, x.node(0, 1));
        due("hands over", 1, x.node(1, 5));
        due("does not", 0, x.node(0, 5));
        due("up alone", 1, x.node(2, 0));
        x.crash(2);
        due("neither", 0, x.node(2, 0));
        due("up and ready", 3, x.node(0, 0));
        x.crash(0);
        due("crashed when ready", 2, x.node(0, 0));
        due("LAST of a crashed node", 2, x.node(0, 2));
    }

    private static void clean() {
        ChainKeeper x = new ChainKeeper(2, 5);
        for (int bad : WRONG) {
            due("clean of a wrong node", -1, x.clean(bad, 0));
            due("clean of a wrong key", -1, x.clean(0, bad));
        }
        due("clean(6, 0)", -1, x.clean(6, 0));
        due("clean(0, 4)", -1, x.clean(0, 4));
        due("clean(5, 3) at first", 0, x.clean(5, 3));
        writeThrough(x, 0, 3, 9);
        writeThrough(x, 0, 0, 8);
        due("clean(0, 3)", 1, x.clean(0, 3));
        due("clean(1, 0)", 2, x.clean(1, 0));
        due("clean(1, 1)", 0, x.clean(1, 1));
        x.write(0, 3, 7);
        x.deliver(0);
        due("a pending update is not clean", 1, x.clean(0, 3));
        x.deliver(0);
        due("at the tail it is", 3, x.clean(1, 3));
        due("at the head not before the ACK", 1, x.clean(0, 3));
        deliverAll(x);
        due("then it is", 3, x.clean(0, 3));
    }

    private static void value() {
        ChainKeeper x = new ChainKeeper(2, 5);
        for (int bad : WRONG) {
            due("value of a wrong node", -1, x.value(bad, 0));
            due("value of a wrong key", -1, x.value(0, bad));
        }
        due("value(6, 0)", -1, x.value(6, 0));
        due("value(0, 4)", -1, x.value(0, 4));
        due("value(5, 3) at first", 0, x.value(5, 3));
        writeThrough(x, 0, 3, 9);
        due("value(0, 3)", 9, x.value(0, 3));
        due("value(1, 3)", 9, x.value(1, 3));
        due("value(1, 2)", 0, x.value(1, 2));
        x.write(0, 3, 9999);
        x.deliver(0);
        due("value(0, 3) with a pending one", 9, x.value(0, 3));
        deliverAll(x);
        due("value(0, 3)", 9999, x.value(0, 3));
    }

    private static void client() {
        ChainKeeper x = new ChainKeeper(2, 5);
        for (int bad : WRONG) {
            due("client of a wrong client", -1, x.client(bad, 0));
            due("client of a wrong what", -1, x.client(0, bad));
        }
        due("client(3, 0)", -1, x.client(3, 0));
        due("client(0, 4)", -1, x.client(0, 4));
        for (int what = 0; what < 4; what++) {
            due("client(2, " + what + ") at first", 0, x.client(2, what));
        }
        x.write(2, 1, 41);
        due("the number of its last request", 1, x.client(2, 0));
        due("open", 1, x.client(2, 1));
        deliverAll(x);
        due("the number of its last request", 1, x.client(2, 0));
        due("not open", 0, x.client(2, 1));
        due("a write leaves VERSION", 0, x.client(2, 2));
        due("a write leaves VALUE", 0, x.client(2, 3));
        x.read(2, 1, 0);
        deliverAll(x);
        due("the number of its last request", 2, x.client(2, 0));
        due("VERSION", 1, x.client(2, 2));
        due("VALUE", 41, x.client(2, 3));
        writeThrough(x, 2, 1, 42);
        due("a write leaves VERSION", 1, x.client(2, 2));
        due("a write leaves VALUE", 41, x.client(2, 3));
        due("other clients are not touched", 0, x.client(1, 0));
    }
}
