import java.util.function.Supplier;
import java.util.function.ToIntFunction;

/**
 * One test for each boundary that a promise names of a call's own: arguments too small and too large
 * and the last ones that are not, empty and full, and the refused call, which leaves no trace.
 */
public final class BoundaryTest {
    private static final int MIN = Integer.MIN_VALUE;
    private static final int MAX = Integer.MAX_VALUE;

    public static void main(String[] args) throws Exception {
        Checks.runAll(BoundaryTest.class, true);
    }

    private static void due(String what, long want, long got) {
        Checks.due(what, want, got);
    }

    private static void due(String what, boolean want, boolean got) {
        Checks.due(what, want, got);
    }

    private static ChainKeeper three() {
        return new ChainKeeper(3, 5);
    }

    /** Refused with -1 in a new object and in one where much is under way. */
    private static void minusOne(String call, ToIntFunction<ChainKeeper> act) {
        Checks.refused(call, -1, BoundaryTest::three, act);
        Checks.refused(call, -1, Checks::busy, act);
    }

    private interface Call {
        boolean on(ChainKeeper x);
    }

    private static void isFalse(String call, Supplier<ChainKeeper> state, Call act) {
        Checks.refused(call, 0, state, x -> Checks.asNumber(act.on(x)));
    }

    /** Refused with false in a new object and in one where much is under way. */
    private static void isFalse(String call, Call act) {
        isFalse(call, BoundaryTest::three, act);
        isFalse(call, Checks::busy, act);
    }

    // Promise 1: A new object

    private static int lengthOfChain(int nodes) {
        ChainKeeper x = new ChainKeeper(nodes, 5);
        int length = 0;
        for (int i = 0; i < 7; i++) {
            length += x.chain(i) == i ? 1 : 0;
            due("node(" + i + ", 0) of " + nodes, i > 5 ? -1 : x.chain(i) == i ? 3 : 1, x.node(i, 0));
        }
        return length;
    }

    /** The ticks until a request that was lost is sent again. */
    private static int ticksToRetry(int retry) {
        ChainKeeper x = new ChainKeeper(3, retry);
        x.write(0, 0, 1);
        x.drop(0);
        int ticks = 0;
        while (ticks < 30 && x.messages() == 0) {
            x.tick(1);
            ticks++;
        }
        return ticks;
    }

    static void promise01_nodesTooFewMeansThree() {
        due("the chain of 0", 3, lengthOfChain(0));
        due("the chain of -1", 3, lengthOfChain(-1));
        due("the chain of the least int", 3, lengthOfChain(MIN));
    }

    static void promise01_nodesTooManyMeansThree() {
        due("the chain of 5", 3, lengthOfChain(5));
        due("the chain of 6", 3, lengthOfChain(6));
        due("the chain of the greatest int", 3, lengthOfChain(MAX));
    }

    static void promise01_nodesFewestAndMost() {
        due("the chain of 1", 1, lengthOfChain(1));
        due("the chain of 2", 2, lengthOfChain(2));
        due("the chain of 3", 3, lengthOfChain(3));
        due("the chain of 4", 4, lengthOfChain(4));
    }

    static void promise01_retryTooSmallMeansFive() {
        due("RETRY of 1", 5, ticksToRetry(1));
        due("RETRY of 0", 5, ticksToRetry(0));
        due("RETRY of -1", 5, ticksToRetry(-1));
        due("RETRY of the least int", 5, ticksToRetry(MIN));
    }

    static void promise01_retryTooLargeMeansFive() {
        due("RETRY of 21", 5, ticksToRetry(21));
        due("RETRY of the greatest int", 5, ticksToRetry(MAX));
    }

    static void promise01_retrySmallestAndLargest() {
        due("RETRY of 2", 2, ticksToRetry(2));
        due("RETRY of 3", 3, ticksToRetry(3));
        due("RETRY of 19", 19, ticksToRetry(19));
        due("RETRY of 20", 20, ticksToRetry(20));
    }

    static void promise01_oneArgumentIsWrongAloneOrBoth() {
        due("the chain of 4 with a wrong retry", 3, new ChainKeeper(4, 99).chain(3));
        ChainKeeper both = new ChainKeeper(9, 0);
        due("the chain of both wrong", 2, both.chain(2));
        due("the chain of both wrong", -1, both.chain(3));
        ChainKeeper x = new ChainKeeper(0, 2);
        x.read(0, 0, 0);
        x.tick(2);
        due("RETRY with wrong nodes", 2, x.messages());
    }

    static void promise01_allIsEmptyAtFirst() {
        ChainKeeper x = new ChainKeeper(4, 5);
        due("messages()", 0, x.messages());
        for (int n = 0; n < 6; n++) {
            due("epoch", 1, x.node(n, 1));
            for (int what = 2; what < 6; what++) {
                due("node(" + n + ", " + what + ")", 0, x.node(n, what));
            }
            for (int key = 0; key < 4; key++) {
                due("clean(" + n + ", " + key + ")", 0, x.clean(n, key));
                due("value(" + n + ", " + key + ")", 0, x.value(n, key));
            }
        }
        for (int c = 0; c < 3; c++) {
            for (int what = 0; what < 4; what++) {
                due("client(" + c + ", " + what + ")", 0, x.client(c, what));
            }
        }
    }

    static void promise01_answersUpToTheCall512() {
        ChainKeeper x = new ChainKeeper(1, 20);
        for (int k = 1; k <= 170; k++) {
            due("write " + k, k, x.write(1, k % 4, k));
            due("deliver", true, x.deliver(0));
            due("deliver", true, x.deliver(0));
        }
        due("call 511", 170, x.clean(0, 2));
        due("call 512", 170, x.value(0, 2));
        ChainKeeper long20 = new ChainKeeper(1, 20);
        long20.write(0, 0, 1);
        for (int k = 2; k < 512; k++) {
            long20.tick(20);
        }
        due("a retry each 20 ticks until the list is full", 60, long20.messages());
    }

    // Promise 2: write

    static void promise02_clientTooSmall() {
        minusOne("write(-1, 0, 1)", x -> x.write(-1, 0, 1));
        minusOne("write of the least client", x -> x.write(MIN, 0, 1));
    }

    static void promise02_clientTooLarge() {
        minusOne("write(3, 0, 1)", x -> x.write(3, 0, 1));
        minusOne("write of the greatest client", x -> x.write(MAX, 0, 1));
    }

    static void promise02_keyTooSmall() {
        minusOne("write(2, -1, 1)", x -> x.write(2, -1, 1));
        minusOne("write of the least key", x -> x.write(2, MIN, 1));
    }

    static void promise02_keyTooLarge() {
        minusOne("write(2, 4, 1)", x -> x.write(2, 4, 1));
        minusOne("write of the greatest key", x -> x.write(2, MAX, 1));
    }

    static void promise02_valueTooSmall() {
        minusOne("write(2, 0, 0)", x -> x.write(2, 0, 0));
        minusOne("write(2, 0, -1)", x -> x.write(2, 0, -1));
        minusOne("write of the least value", x -> x.write(2, 0, MIN));
    }

    static void promise02_valueTooLarge() {
        minusOne("write(2, 0, 10000)", x -> x.write(2, 0, 10000));
        minusOne("write of the greatest value", x -> x.write(2, 0, MAX));
    }

    static void promise02_firstAndLastOfEach() {
        ChainKeeper x = three();
        due("write(0, 0, 1)", 1, x.write(0, 0, 1));
        due("write(2, 3, 9999)", 1, x.write(2, 3, 9999));
        Checks.deliverAll(x);
        due("the smallest value", 1, x.value(0, 0));
        due("the largest value", 9999, x.value(0, 3));
        due("client(0, 1)", 0, x.client(0, 1));
        due("client(2, 1)", 0, x.client(2, 1));
    }

    static void promise02_openWriteRefuses() {
        Checks.refused("write while a write is open", -1, () -> {
            ChainKeeper x = three();
            x.write(1, 0, 5);
            return x;
        }, x -> x.write(1, 1, 6));
    }

    static void promise02_openReadRefuses() {
        Checks.refused("write while a read is open", -1, () -> {
            ChainKeeper x = three();
            x.read(1, 0, 5);
            return x;
        }, x -> x.write(1, 1, 6));
    }

    static void promise02_openRequestOfAnotherClientDoesNotRefuse() {
        ChainKeeper x = three();
        x.write(0, 0, 5);
        x.read(1, 0, 5);
        due("write(2, 0, 6)", 1, x.write(2, 0, 6));
    }

    static void promise02_requestThatIsOpenNoMoreDoesNotRefuse() {
        ChainKeeper x = three();
        Checks.writeThrough(x, 0, 0, 5);
        due("write(0, 0, 6)", 2, x.write(0, 0, 6));
    }

    static void promise02_numbersAreEachClientsOwnAndRefusalsTakeNone() {
        ChainKeeper x = new ChainKeeper(1, 5);
        Checks.writeThrough(x, 0, 0, 5);
        x.write(0, 0, 0);
        x.write(0, 4, 1);
        due("the second of client 0", 2, x.write(0, 0, 6));
        x.write(0, 0, 7);
        Checks.deliverAll(x);
        due("the third of client 0", 3, x.write(0, 0, 8));
        due("the first of client 1", 1, x.write(1, 0, 8));
    }

    static void promise02_emptyChainSendsToNone() {
        ChainKeeper x = new ChainKeeper(1, 5);
        x.crash(0);
        x.detect(0);
        due("write(0, 0, 1)", 1, x.write(0, 0, 1));
        due("messages()", 0, x.messages());
        due("the number of the last request", 1, x.client(0, 0));
        due("it is open", 1, x.client(0, 1));
        due("a second one", -1, x.write(0, 0, 1));
    }

    static void promise02_fullListLosesIt() {
        ChainKeeper x = Checks.filled(three(), 60);
        due("write(0, 0, 1)", 1, x.write(0, 0, 1));
        due("messages()", 60, x.messages());
        due("the last message", 2500001, x.message(59));
        due("it is open", 1, x.client(0, 1));
        ChainKeeper y = Checks.filled(three(), 59);
        due("write(0, 0, 1)", 1, y.write(0, 0, 1));
        due("messages()", 60, y.messages());
        due("the last message", 1000001, y.message(59));
    }

    static void promise02_headIsTheMastersNotTheNodes() {
        ChainKeeper x = three();
        x.crash(0);
        x.write(0, 0, 1);
        due("a crashed head that the master still has", 1000001, x.message(0));
        x.detect(0);
        x.write(1, 0, 1);
        due("the next one, which does not know it yet", 1100001, x.message(3));
    }

    // Promise 3: read

    static void promise03_clientTooSmall() {
        minusOne("read(-1, 0, 1)", x -> x.read(-1, 0, 1));
        minusOne("read of the least client", x -> x.read(MIN, 0, 1));
    }

    static void promise03_clientTooLarge() {
        minusOne("read(3, 0, 1)", x -> x.read(3, 0, 1));
        minusOne("read of the greatest client", x -> x.read(MAX, 0, 1));
    }

    static void promise03_keyTooSmall() {
        minusOne("read(2, -1, 1)", x -> x.read(2, -1, 1));
        minusOne("read of the least key", x -> x.read(2, MIN, 1));
    }

    static void promise03_keyTooLarge() {
        minusOne("read(2, 4, 1)", x -> x.read(2, 4, 1));
        minusOne("read of the greatest key", x -> x.read(2, MAX, 1));
    }

    static void promise03_nodeTooSmall() {
        minusOne("read(2, 0, -1)", x -> x.read(2, 0, -1));
        minusOne("read at the least node", x -> x.read(2, 0, MIN));
    }

    static void promise03_nodeTooLarge() {
        minusOne("read(2, 0, 6)", x -> x.read(2, 0, 6));
        minusOne("read at the greatest node", x -> x.read(2, 0, MAX));
    }

    static void promise03_firstAndLastOfEach() {
        ChainKeeper x = three();
        Checks.writeThrough(x, 1, 3, 33);
        due("read(0, 0, 0)", 1, x.read(0, 0, 0));
        due("read(2, 3, 2)", 1, x.read(2, 3, 2));
        due("message(0)", 2000001, x.message(0));
        due("message(1)", 2200001, x.message(1));
        Checks.deliverAll(x);
        due("VALUE of a key that was never written", 0, x.client(0, 3));
        due("VALUE of the last key", 33, x.client(2, 3));
        due("read(2, 3, 5)", 2, x.read(2, 3, 5));
        due("message(0)", 2500002, x.message(0));
    }

    static void promise03_openWriteRefuses() {
        Checks.refused("read while a write is open", -1, () -> {
            ChainKeeper x = three();
            x.write(1, 0, 5);
            return x;
        }, x -> x.read(1, 1, 0));
    }

    static void promise03_openReadRefuses() {
        Checks.refused("read while a read is open", -1, () -> {
            ChainKeeper x = three();
            x.read(1, 0, 5);
            return x;
        }, x -> x.read(1, 1, 0));
    }

    static void promise03_openRequestOfAnotherClientDoesNotRefuse() {
        ChainKeeper x = three();
        x.write(0, 0, 5);
        x.read(1, 0, 5);
        due("read(2, 0, 0)", 1, x.read(2, 0, 0));
    }

    static void promise03_readsAndWritesShareTheirNumbers() {
        ChainKeeper x = three();
        Checks.writeThrough(x, 0, 0, 5);
        due("read(0, 0, 0)", 2, x.read(0, 0, 0));
        Checks.deliverAll(x);
        due("write(0, 0, 1)", 3, x.write(0, 0, 1));
    }

    static void promise03_nodeOutsideTheChainOrCrashedOrOfNoChain() {
        ChainKeeper x = new ChainKeeper(1, 5);
        due("read at a node outside the chain", 1, x.read(0, 0, 1));
        x.crash(0);
        due("read at a crashed node", 1, x.read(1, 0, 0));
        x.detect(0);
        due("read when the chain is empty", 1, x.read(2, 0, 0));
        Checks.due("the messages", "2100001 2000001 2000001", Checks.list(x));
    }

    static void promise03_fullListLosesIt() {
        ChainKeeper x = Checks.filled(three(), 60);
        due("read(0, 0, 0)", 1, x.read(0, 0, 0));
        due("messages()", 60, x.messages());
        due("the last message", 2500001, x.message(59));
        due("it is open", 1, x.client(0, 1));
        ChainKeeper y = Checks.filled(three(), 59);
        due("read(0, 0, 0)", 1, y.read(0, 0, 0));
        due("the last message", 2000001, y.message(59));
    }

    // Promise 4: deliver (what each message does is in TermsBoundaryTest)

    static void promise04_noneInAnEmptyList() {
        isFalse("deliver(0) of none", BoundaryTest::three, x -> x.deliver(0));
    }

    static void promise04_indexTooSmall() {
        isFalse("deliver(-1)", x -> x.deliver(-1));
        isFalse("deliver of the least index", x -> x.deliver(MIN));
    }

    static void promise04_indexTooLarge() {
        isFalse("deliver(messages())", x -> x.deliver(x.messages()));
        isFalse("deliver(60)", () -> Checks.filled(three(), 60), x -> x.deliver(60));
        isFalse("deliver of the greatest index", x -> x.deliver(MAX));
    }

    static void promise04_firstAndLast() {
        ChainKeeper x = three();
        x.read(0, 0, 0);
        x.read(1, 0, 1);
        x.read(2, 0, 2);
        due("the last", true, x.deliver(2));
        Checks.due("the messages", "2000001 2100001 7200001", Checks.list(x));
        due("the first", true, x.deliver(0));
        Checks.due("the messages", "2100001 7200001 7000001", Checks.list(x));
        due("one between", true, x.deliver(1));
        Checks.due("the messages", "2100001 7000001", Checks.list(x));
        due("client(2, 1)", 0, x.client(2, 1));
        due("client(0, 1)", 1, x.client(0, 1));
    }

    static void promise04_lastOfAFullList() {
        ChainKeeper x = Checks.filled(three(), 60);
        due("deliver(59)", true, x.deliver(59));
        due("messages()", 59, x.messages());
    }

    static void promise04_takenOutBeforeItSends() {
        ChainKeeper x = three();
        x.write(0, 0, 1);
        Checks.filled(x, 60);
        due("deliver(0)", true, x.deliver(0));
        due("messages()", 60, x.messages());
        due("what it sent has room", 3100001, x.message(59));
    }

    // Promise 5: drop

    static void promise05_noneInAnEmptyList() {
        isFalse("drop(0) of none", BoundaryTest::three, x -> x.drop(0));
    }

    static void promise05_indexTooSmall() {
        isFalse("drop(-1)", x -> x.drop(-1));
        isFalse("drop of the least index", x -> x.drop(MIN));
    }

    static void promise05_indexTooLarge() {
        isFalse("drop(messages())", x -> x.drop(x.messages()));
        isFalse("drop(60)", () -> Checks.filled(three(), 60), x -> x.drop(60));
        isFalse("drop of the greatest index", x -> x.drop(MAX));
    }

    private static ChainKeeper joining() {
        ChainKeeper x = three();
        x.read(0, 0, 0);
        x.join(5);
        return x;
    }

    static void promise05_configIsRefused() {
        isFalse("drop of the first CONFIG", BoundaryTest::joining, x -> x.drop(1));
        isFalse("drop of the last CONFIG", BoundaryTest::joining, x -> x.drop(4));
        isFalse("drop of a CONFIG's double", () -> {
            ChainKeeper x = joining();
            x.duplicate(4);
            return x;
        }, x -> x.drop(5));
        isFalse("drop of a CONFIG to a crashed node", () -> {
            ChainKeeper x = joining();
            x.crash(5);
            return x;
        }, x -> x.drop(4));
    }

    static void promise05_everyOtherKindIsDropped() {
        ChainKeeper x = new ChainKeeper(2, 5);
        x.write(0, 0, 1);
        dropDouble(x, 1000001);
        x.deliver(0);
        dropDouble(x, 3100001);
        x.read(1, 0, 0);
        dropDouble(x, 2000001);
        x.deliver(1);
        dropDouble(x, 5100001);
        x.deliver(1);
        dropDouble(x, 6000001);
        Checks.deliverShown(x, 3100001);
        dropDouble(x, 4000001);
        dropDouble(x, 7000001);
        Checks.deliverAll(x);
        x.join(5);
        x.deliver(1);
        dropDouble(x, 9500001);
    }

    /** Doubles the first message that shows this number and drops the double. */
    private static void dropDouble(ChainKeeper x, int shown) {
        int size = x.messages();
        int i = 0;
        while (i < size && x.message(i) != shown) {
            i++;
        }
        due("duplicate of " + shown, true, x.duplicate(i));
        due("the double", shown, x.message(size));
        due("drop of " + shown, true, x.drop(size));
        due("messages()", size, x.messages());
    }

    static void promise05_firstAndLast() {
        ChainKeeper x = three();
        x.write(0, 0, 7);
        x.read(1, 0, 1);
        x.read(2, 0, 2);
        due("the last", true, x.drop(2));
        Checks.due("the messages", "1000001 2100001", Checks.list(x));
        due("the first", true, x.drop(0));
        Checks.due("the messages", "2100001", Checks.list(x));
        due("what was lost does not arrive", 0, x.node(0, 2));
        due("drop(59)", true, Checks.filled(three(), 60).drop(59));
    }

    // Promise 6: duplicate

    static void promise06_noneInAnEmptyList() {
        isFalse("duplicate(0) of none", BoundaryTest::three, x -> x.duplicate(0));
    }

    static void promise06_indexTooSmall() {
        isFalse("duplicate(-1)", x -> x.duplicate(-1));
        isFalse("duplicate of the least index", x -> x.duplicate(MIN));
    }

    static void promise06_indexTooLarge() {
        isFalse("duplicate(messages())", x -> x.duplicate(x.messages()));
        isFalse("duplicate(59) of 59", () -> Checks.filled(three(), 59), x -> x.duplicate(59));
        isFalse("duplicate of the greatest index", x -> x.duplicate(MAX));
    }

    static void promise06_fullListRefuses() {
        isFalse("duplicate(0) of 60", () -> Checks.filled(three(), 60), x -> x.duplicate(0));
        isFalse("duplicate(59) of 60", () -> Checks.filled(three(), 60), x -> x.duplicate(59));
    }

    static void promise06_fiftyNineDoNotRefuse() {
        ChainKeeper x = three();
        x.write(0, 0, 1);
        Checks.filled(x, 59);
        due("duplicate(0)", true, x.duplicate(0));
        due("messages()", 60, x.messages());
        due("it is the last", 1000001, x.message(59));
    }

    static void promise06_firstAndLastAndAConfig() {
        ChainKeeper x = joining();
        due("the first", true, x.duplicate(0));
        due("message(5)", 2000001, x.message(5));
        due("the last", true, x.duplicate(5));
        due("message(6)", 2000001, x.message(6));
        due("a CONFIG", true, x.duplicate(4));
        due("message(7)", 8500002, x.message(7));
        due("message(4) stays", 8500002, x.message(4));
        x.deliver(7);
        due("its double is taken", 2, x.node(5, 1));
    }

    /** Puts a double in the place of the message that shows this number, which is lost. */
    private static void exchangeForDouble(ChainKeeper x, int shown) {
        int i = 0;
        while (i < 60 && x.message(i) != shown) {
            i++;
        }
        due("duplicate of " + shown, true, x.duplicate(i));
        due("drop of " + shown, true, x.drop(i));
    }

    static void promise06_doubleOfEachKindOfAWriteIsLikeIt() {
        ChainKeeper x = new ChainKeeper(2, 5);
        x.write(2, 3, 9999);
        exchangeForDouble(x, 1000001);
        x.deliver(0);
        exchangeForDouble(x, 3100001);
        x.deliver(0);
        due("the UPDATE's key and number", 1, x.clean(1, 3));
        due("the UPDATE's value", 9999, x.value(1, 3));
        exchangeForDouble(x, 4000001);
        exchangeForDouble(x, 7200001);
        Checks.deliverAll(x);
        due("the ACK's number", 1, x.node(0, 3));
        due("value(0, 3)", 9999, x.value(0, 3));
        due("the REPLY's client and request", 0, x.client(2, 1));
    }

    static void promise06_doubleOfEachKindOfAReadIsLikeIt() {
        ChainKeeper x = new ChainKeeper(4, 5);
        x.write(0, 3, 77);
        Checks.deliverFirst(x, 4);
        Checks.dropAll(x);
        x.read(2, 3, 1);
        exchangeForDouble(x, 2100001);
        x.deliver(0);
        exchangeForDouble(x, 5300001);
        x.deliver(0);
        exchangeForDouble(x, 6100001);
        x.deliver(0);
        exchangeForDouble(x, 7200001);
        x.deliver(0);
        due("client(2, 1)", 0, x.client(2, 1));
        due("VERSION", 1, x.client(2, 2));
        due("VALUE", 77, x.client(2, 3));
    }

    static void promise06_doubleOfACopyIsLikeIt() {
        ChainKeeper x = new ChainKeeper(1, 5);
        for (int key = 0; key < 4; key++) {
            Checks.writeThrough(x, 1, key, 60 + key);
        }
        x.write(2, 0, 70);
        x.deliver(0);
        x.drop(0);
        x.join(5);
        Checks.deliverFirst(x, 2);
        exchangeForDouble(x, 9500005);
        x.deliver(0);
        due("LAST", 5, x.node(5, 2));
        due("clean(5, 0)", 5, x.clean(5, 0));
        due("value(5, 0)", 70, x.value(5, 0));
        for (int key = 1; key < 4; key++) {
            due("clean(5, " + key + ")", key + 1, x.clean(5, key));
            due("value(5, " + key + ")", 60 + key, x.value(5, key));
        }
        x.crash(0);
        x.detect(0);
        Checks.deliverAll(x);
        x.tick(5);
        due("message(0)", 1500001, x.message(0));
        x.deliver(0);
        due("its TABLE has the request", 7200001, x.message(0));
        due("which is not applied again", 5, x.node(5, 2));
    }

    // Promise 7: tick (what a tick does is in TermsBoundaryTest)

    static void promise07_tooFew() {
        isFalse("tick(0)", x -> x.tick(0));
        isFalse("tick(-1)", x -> x.tick(-1));
        isFalse("tick of the least number", x -> x.tick(MIN));
    }

    static void promise07_tooMany() {
        isFalse("tick(21)", x -> x.tick(21));
        isFalse("tick of the greatest number", x -> x.tick(MAX));
    }

    static void promise07_fewestAndMost() {
        ChainKeeper x = new ChainKeeper(3, 20);
        x.read(0, 0, 0);
        due("tick(1)", true, x.tick(1));
        due("tick(18)", true, x.tick(18));
        due("messages() after 19", 1, x.messages());
        due("tick(1)", true, x.tick(1));
        due("messages() after 20", 2, x.messages());
        due("tick(20)", true, x.tick(20));
        due("messages() after 40", 3, x.messages());
        ChainKeeper y = new ChainKeeper(3, 2);
        y.read(0, 0, 0);
        y.tick(20);
        due("20 ticks are 20", 11, y.messages());
    }

    // Promise 8: crash

    static void promise08_nodeTooSmall() {
        isFalse("crash(-1)", x -> x.crash(-1));
        isFalse("crash of the least node", x -> x.crash(MIN));
    }

    static void promise08_nodeTooLarge() {
        isFalse("crash(6)", x -> x.crash(6));
        isFalse("crash of the greatest node", x -> x.crash(MAX));
    }

    static void promise08_firstAndLastNode() {
        ChainKeeper x = three();
        due("crash(0)", true, x.crash(0));
        due("crashed when ready", 2, x.node(0, 0));
        due("crash(5)", true, x.crash(5));
        due("neither", 0, x.node(5, 0));
        due("the others are up", 3, x.node(1, 0));
    }

    static void promise08_notUpIsRefused() {
        isFalse("crash(0) again", () -> {
            ChainKeeper x = three();
            x.crash(0);
            return x;
        }, x -> x.crash(0));
        isFalse("crash(5) again", () -> {
            ChainKeeper x = three();
            x.crash(5);
            return x;
        }, x -> x.crash(5));
        isFalse("crash of one that was taken out", () -> {
            ChainKeeper x = three();
            x.crash(1);
            x.detect(1);
            return x;
        }, x -> x.crash(1));
    }

    static void promise08_masterDoesNotSeeIt() {
        ChainKeeper x = three();
        x.crash(1);
        due("chain(1)", 1, x.chain(1));
        due("messages()", 0, x.messages());
    }

    static void promise08_crashedForEver() {
        ChainKeeper x = three();
        x.crash(5);
        x.tick(20);
        due("join(5)", false, x.join(5));
        due("node(5, 0)", 0, x.node(5, 0));
    }

    // Promise 9: detect

    private static ChainKeeper crashed(int x) {
        ChainKeeper made = three();
        made.crash(x);
        return made;
    }

    static void promise09_nodeTooSmall() {
        isFalse("detect(-1)", x -> x.detect(-1));
        isFalse("detect of the least node", x -> x.detect(MIN));
    }

    static void promise09_nodeTooLarge() {
        isFalse("detect(6)", x -> x.detect(6));
        isFalse("detect of the greatest node", x -> x.detect(MAX));
    }

    static void promise09_nodeThatIsUpIsRefused() {
        isFalse("detect(0)", BoundaryTest::three, x -> x.detect(0));
        isFalse("detect(2)", () -> crashed(1), x -> x.detect(2));
    }

    static void promise09_nodeNeverInTheChainIsRefused() {
        isFalse("detect(5), crashed", () -> crashed(5), x -> x.detect(5));
        isFalse("detect(5), up", BoundaryTest::three, x -> x.detect(5));
        isFalse("detect(3), crashed", () -> crashed(3), x -> x.detect(3));
    }

    static void promise09_nodeNoMoreInTheChainIsRefused() {
        isFalse("detect(1) again", () -> {
            ChainKeeper x = crashed(1);
            x.detect(1);
            return x;
        }, x -> x.detect(1));
    }

    static void promise09_moreThanFiftyMessagesRefuse() {
        isFalse("detect with 51", () -> Checks.filled(crashed(1), 51), x -> x.detect(1));
        isFalse("detect with 60", () -> Checks.filled(crashed(1), 60), x -> x.detect(1));
    }

    static void promise09_fiftyMessagesDoNotRefuse() {
        ChainKeeper x = Checks.filled(crashed(1), 50);
        due("detect(1)", true, x.detect(1));
        due("messages()", 52, x.messages());
        due("message(50)", 8000002, x.message(50));
        due("message(51)", 8200002, x.message(51));
    }

    static void promise09_firstAndLastOfTheChain() {
        ChainKeeper x = new ChainKeeper(4, 5);
        x.crash(0);
        x.crash(3);
        due("the head", true, x.detect(0));
        due("the tail", true, x.detect(3));
        due("chain(0)", 1, x.chain(0));
        due("chain(1)", 2, x.chain(1));
        due("chain(2)", -1, x.chain(2));
        Checks.due("crashed nodes of the chain are sent a CONFIG too",
            "8100002 8200002 8300002 8100003 8200003", Checks.list(x));
    }

    static void promise09_chainThatBecomesEmpty() {
        ChainKeeper x = new ChainKeeper(1, 5);
        x.crash(0);
        due("detect(0)", true, x.detect(0));
        due("chain(0)", -1, x.chain(0));
        due("messages()", 0, x.messages());
        due("detect(0) again", false, x.detect(0));
    }

    static void promise09_nodeFiveAfterAJoin() {
        ChainKeeper x = three();
        x.join(5);
        x.crash(5);
        due("detect(5)", true, x.detect(5));
        due("chain(3)", -1, x.chain(3));
        due("the epoch grew twice", 8200003, x.message(6));
    }

    // Promise 10: join

    static void promise10_nodeTooSmall() {
        isFalse("join(-1)", x -> x.join(-1));
        isFalse("join of the least node", x -> x.join(MIN));
    }

    static void promise10_nodeTooLarge() {
        isFalse("join(6)", x -> x.join(6));
        isFalse("join of the greatest node", x -> x.join(MAX));
    }

    static void promise10_nodeInTheChainIsRefused() {
        isFalse("join of the head", BoundaryTest::three, x -> x.join(0));
        isFalse("join of the tail", BoundaryTest::three, x -> x.join(2));
        isFalse("join again", BoundaryTest::joining, x -> x.join(5));
    }

    static void promise10_nodeThatHasBeenInTheChainIsRefused() {
        isFalse("join of one that was taken out", () -> {
            ChainKeeper x = crashed(1);
            x.detect(1);
            return x;
        }, x -> x.join(1));
        isFalse("join of one that came in and was taken out", () -> {
            ChainKeeper x = joining();
            x.crash(5);
            x.detect(5);
            return x;
        }, x -> x.join(5));
    }

    static void promise10_nodeThatIsNotUpIsRefused() {
        isFalse("join(3)", () -> crashed(3), x -> x.join(3));
        isFalse("join(5)", () -> crashed(5), x -> x.join(5));
    }

    static void promise10_emptyChainRefuses() {
        isFalse("join(3)", () -> {
            ChainKeeper x = new ChainKeeper(1, 5);
            x.crash(0);
            x.detect(0);
            return x;
        }, x -> x.join(3));
    }

    static void promise10_chainOfACrashedNodeDoesNotRefuse() {
        ChainKeeper x = new ChainKeeper(1, 5);
        x.crash(0);
        due("join(3)", true, x.join(3));
        Checks.due("the messages", "8000002 8300002", Checks.list(x));
    }

    static void promise10_moreThanFiftyMessagesRefuse() {
        isFalse("join with 51", () -> Checks.filled(three(), 51), x -> x.join(3));
        isFalse("join with 60", () -> Checks.filled(three(), 60), x -> x.join(3));
    }

    static void promise10_fiftyMessagesDoNotRefuse() {
        ChainKeeper x = Checks.filled(three(), 50);
        due("join(3)", true, x.join(3));
        due("messages()", 54, x.messages());
        due("message(50)", 8000002, x.message(50));
        due("message(53)", 8300002, x.message(53));
    }

    static void promise10_allSixNodes() {
        ChainKeeper x = new ChainKeeper(4, 5);
        due("join(5)", true, x.join(5));
        due("join(4)", true, x.join(4));
        due("chain(4)", 5, x.chain(4));
        due("chain(5)", 4, x.chain(5));
        Checks.due("the messages", "8000002 8100002 8200002 8300002 8500002"
            + " 8000003 8100003 8200003 8300003 8500003 8400003", Checks.list(x));
        for (int n = 0; n < 6; n++) {
            due("join of all that are in it", false, x.join(n));
        }
    }

    // Promise 11: messages

    static void promise11_noneAndOne() {
        ChainKeeper x = three();
        due("messages()", 0, x.messages());
        x.read(0, 0, 0);
        due("messages()", 1, x.messages());
        x.drop(0);
        due("messages()", 0, x.messages());
    }

    static void promise11_sixtyAtMost() {
        ChainKeeper x = Checks.filled(three(), 59);
        x.write(0, 0, 1);
        due("the 60th", 60, x.messages());
        x.write(1, 0, 1);
        due("the 61st is lost", 60, x.messages());
        x.tick(20);
        due("and all that follow", 60, x.messages());
    }

    // Promise 12: message

    static void promise12_indexTooSmall() {
        minusOne("message(-1)", x -> x.message(-1));
        minusOne("message of the least index", x -> x.message(MIN));
    }

    static void promise12_indexTooLarge() {
        minusOne("message(messages())", x -> x.message(x.messages()));
        minusOne("message of the greatest index", x -> x.message(MAX));
        due("message(60)", -1, Checks.filled(three(), 60).message(60));
    }

    static void promise12_noneInAnEmptyList() {
        ChainKeeper x = three();
        due("message(0)", -1, x.message(0));
        x.read(0, 0, 0);
        x.drop(0);
        due("message(0) that was dropped", -1, x.message(0));
    }

    static void promise12_firstAndLast() {
        ChainKeeper x = three();
        x.read(0, 0, 1);
        Checks.filled(x, 60);
        due("message(0)", 2100001, x.message(0));
        due("message(59)", 2500001, x.message(59));
    }

    static void promise12_firstAndLastNodeAndClient() {
        ChainKeeper x = three();
        x.read(0, 0, 0);
        x.read(2, 0, 0);
        x.read(1, 0, 5);
        Checks.due("to nodes 0 and 5", "2000001 2000001 2500001", Checks.list(x));
        Checks.deliverFirst(x, 3);
        Checks.due("to clients 0 and 2", "7000001 7200001", Checks.list(x));
    }

    static void promise12_numberZero() {
        ChainKeeper x = new ChainKeeper(1, 5);
        x.join(5);
        Checks.deliverFirst(x, 2);
        due("a COPY of LAST 0", 9500000, x.message(0));
        x.deliver(0);
        due("an ACK of 0", 4000000, x.message(0));
    }

    static void promise12_numberOfEachKindIsItsOwn() {
        ChainKeeper x = new ChainKeeper(2, 20);
        Checks.writeThrough(x, 0, 0, 1);
        Checks.writeThrough(x, 0, 0, 2);
        x.read(2, 3, 0);
        Checks.deliverAll(x);
        x.write(0, 0, 3);
        due("WRITE: the request", 1000003, x.message(0));
        x.deliver(0);
        due("UPDATE: the number", 3100003, x.message(0));
        x.read(2, 0, 0);
        due("READ: the request", 2000002, x.message(1));
        x.deliver(1);
        due("QUERY: the request", 5100002, x.message(1));
        x.deliver(1);
        due("ANSWER: the request", 6000002, x.message(1));
        x.deliver(1);
        due("REPLY: the request", 7200002, x.message(1));
        x.deliver(0);
        due("ACK: the number", 4000003, x.message(2));
        x.join(4);
        due("CONFIG: the epoch", 8100002, x.message(4));
        x.deliver(4);
        due("COPY: LAST", 9400003, x.message(5));
    }

    // Promise 13: chain

    static void promise13_indexTooSmall() {
        minusOne("chain(-1)", x -> x.chain(-1));
        minusOne("chain of the least index", x -> x.chain(MIN));
    }

    static void promise13_indexTooLarge() {
        ChainKeeper x = three();
        due("chain(3) of three", -1, x.chain(3));
        due("chain(1) of one", -1, new ChainKeeper(1, 5).chain(1));
        minusOne("chain(6)", y -> y.chain(6));
        minusOne("chain of the greatest index", y -> y.chain(MAX));
    }

    static void promise13_firstAndLast() {
        ChainKeeper x = new ChainKeeper(4, 5);
        x.join(5);
        x.join(4);
        due("chain(0)", 0, x.chain(0));
        due("chain(5)", 4, x.chain(5));
        due("chain(6)", -1, x.chain(6));
        x.crash(0);
        x.detect(0);
        due("chain(0)", 1, x.chain(0));
        due("chain(4)", 4, x.chain(4));
        due("chain(5)", -1, x.chain(5));
    }

    static void promise13_emptyChain() {
        ChainKeeper x = new ChainKeeper(1, 5);
        x.crash(0);
        due("chain(0) before", 0, x.chain(0));
        x.detect(0);
        due("chain(0)", -1, x.chain(0));
    }

    // Promise 14: node

    static void promise14_nodeTooSmall() {
        minusOne("node(-1, 0)", x -> x.node(-1, 0));
        minusOne("node of the least node", x -> x.node(MIN, 1));
    }

    static void promise14_nodeTooLarge() {
        minusOne("node(6, 0)", x -> x.node(6, 0));
        minusOne("node of the greatest node", x -> x.node(MAX, 1));
    }

    static void promise14_whatTooSmall() {
        minusOne("node(0, -1)", x -> x.node(0, -1));
        minusOne("node of the least what", x -> x.node(0, MIN));
    }

    static void promise14_whatTooLarge() {
        minusOne("node(0, 6)", x -> x.node(0, 6));
        minusOne("node of the greatest what", x -> x.node(0, MAX));
    }

    static void promise14_fourKindsOfUpAndReady() {
        ChainKeeper x = three();
        due("up and ready", 3, x.node(0, 0));
        due("up alone", 1, x.node(5, 0));
        x.crash(0);
        x.crash(5);
        due("crashed when ready", 2, x.node(0, 0));
        due("neither", 0, x.node(5, 0));
    }

    static void promise14_firstAndLastNodeAndWhat() {
        ChainKeeper x = new ChainKeeper(1, 5);
        Checks.writeThrough(x, 0, 0, 1);
        x.join(5);
        x.deliver(0);
        due("node(0, 5)", 1, x.node(0, 5));
        due("node(0, 1)", 2, x.node(0, 1));
        due("node(5, 1)", 1, x.node(5, 1));
        Checks.deliverFirst(x, 2);
        due("node(5, 0)", 3, x.node(5, 0));
        due("node(5, 2)", 1, x.node(5, 2));
        due("node(5, 3)", 1, x.node(5, 3));
        due("node(5, 5)", 0, x.node(5, 5));
    }

    static void promise14_pendingFromNoneToEight() {
        ChainKeeper x = new ChainKeeper(2, 20);
        for (int k = 0; k < 8; k++) {
            due("node(0, 4)", k, x.node(0, 4));
            x.write(0, k % 4, 1 + k);
            Checks.deliverAllBut(x, 4, 0);
        }
        due("node(0, 4)", 8, x.node(0, 4));
        due("node(0, 2)", 8, x.node(0, 2));
        due("node(0, 3)", 0, x.node(0, 3));
        due("node(1, 4)", 0, x.node(1, 4));
    }

    // Promise 15: clean

    static void promise15_nodeTooSmall() {
        minusOne("clean(-1, 0)", x -> x.clean(-1, 0));
        minusOne("clean of the least node", x -> x.clean(MIN, 0));
    }

    static void promise15_nodeTooLarge() {
        minusOne("clean(6, 0)", x -> x.clean(6, 0));
        minusOne("clean of the greatest node", x -> x.clean(MAX, 0));
    }

    static void promise15_keyTooSmall() {
        minusOne("clean(0, -1)", x -> x.clean(0, -1));
        minusOne("clean of the least key", x -> x.clean(0, MIN));
    }

    static void promise15_keyTooLarge() {
        minusOne("clean(0, 4)", x -> x.clean(0, 4));
        minusOne("clean of the greatest key", x -> x.clean(0, MAX));
    }

    /** Node 5 has key 3 at version 2 and key 0 at version 1; node 0 is the head. */
    private static ChainKeeper withFirstAndLast() {
        ChainKeeper x = new ChainKeeper(1, 5);
        Checks.writeThrough(x, 0, 0, 1);
        Checks.writeThrough(x, 0, 3, 9999);
        x.join(5);
        Checks.deliverAll(x);
        return x;
    }

    static void promise15_firstAndLastNodeAndKey() {
        ChainKeeper x = withFirstAndLast();
        due("clean(0, 0)", 1, x.clean(0, 0));
        due("clean(0, 3)", 2, x.clean(0, 3));
        due("clean(5, 0)", 1, x.clean(5, 0));
        due("clean(5, 3)", 2, x.clean(5, 3));
        due("a key that was never written", 0, x.clean(5, 1));
        due("a node that has none", 0, x.clean(4, 3));
    }

    static void promise15_crashedNodeKeepsIt() {
        ChainKeeper x = withFirstAndLast();
        x.crash(5);
        due("clean(5, 3)", 2, x.clean(5, 3));
    }

    // Promise 16: value

    static void promise16_nodeTooSmall() {
        minusOne("value(-1, 0)", x -> x.value(-1, 0));
        minusOne("value of the least node", x -> x.value(MIN, 0));
    }

    static void promise16_nodeTooLarge() {
        minusOne("value(6, 0)", x -> x.value(6, 0));
        minusOne("value of the greatest node", x -> x.value(MAX, 0));
    }

    static void promise16_keyTooSmall() {
        minusOne("value(0, -1)", x -> x.value(0, -1));
        minusOne("value of the least key", x -> x.value(0, MIN));
    }

    static void promise16_keyTooLarge() {
        minusOne("value(0, 4)", x -> x.value(0, 4));
        minusOne("value of the greatest key", x -> x.value(0, MAX));
    }

    static void promise16_firstAndLastNodeAndKey() {
        ChainKeeper x = withFirstAndLast();
        due("value(0, 0)", 1, x.value(0, 0));
        due("value(0, 3)", 9999, x.value(0, 3));
        due("value(5, 0)", 1, x.value(5, 0));
        due("value(5, 3)", 9999, x.value(5, 3));
        due("a key that was never written", 0, x.value(5, 1));
        due("a node that has none", 0, x.value(4, 3));
    }

    static void promise16_crashedNodeKeepsIt() {
        ChainKeeper x = withFirstAndLast();
        x.crash(5);
        due("value(5, 3)", 9999, x.value(5, 3));
    }

    // Promise 17: client

    static void promise17_clientTooSmall() {
        minusOne("client(-1, 0)", x -> x.client(-1, 0));
        minusOne("client of the least client", x -> x.client(MIN, 1));
    }

    static void promise17_clientTooLarge() {
        minusOne("client(3, 0)", x -> x.client(3, 0));
        minusOne("client of the greatest client", x -> x.client(MAX, 1));
    }

    static void promise17_whatTooSmall() {
        minusOne("client(0, -1)", x -> x.client(0, -1));
        minusOne("client of the least what", x -> x.client(0, MIN));
    }

    static void promise17_whatTooLarge() {
        minusOne("client(0, 4)", x -> x.client(0, 4));
        minusOne("client of the greatest what", x -> x.client(0, MAX));
    }

    static void promise17_firstAndLastClientAndWhat() {
        ChainKeeper x = three();
        Checks.writeThrough(x, 2, 3, 77);
        x.read(2, 3, 0);
        due("client(2, 0)", 2, x.client(2, 0));
        due("client(2, 1)", 1, x.client(2, 1));
        due("client(2, 3) before the REPLY", 0, x.client(2, 3));
        Checks.deliverAll(x);
        due("client(2, 1)", 0, x.client(2, 1));
        due("client(2, 2)", 1, x.client(2, 2));
        due("client(2, 3)", 77, x.client(2, 3));
        for (int what = 0; what < 4; what++) {
            due("client(0, " + what + ")", 0, x.client(0, what));
        }
    }
}
